theorem dX0_init_0 : decode cX0_init 0 = .ok (.aload_n 0, 1) := by decide +kernel
theorem dX0_init_1 : decode cX0_init 1 = .ok (.invokespecial 3, 3) := by decide +kernel
theorem dX0_init_4 : decode cX0_init 4 = .ok (.aload_n 0, 1) := by decide +kernel
theorem dX0_init_5 : decode cX0_init 5 = .ok (.iconst 0, 1) := by decide +kernel
theorem dX0_init_6 : decode cX0_init 6 = .ok (.putfield 9, 3) := by decide +kernel
theorem dX0_init_9 : decode cX0_init 9 = .ok (.aload_n 0, 1) := by decide +kernel
theorem dX0_init_10 : decode cX0_init 10 = .ok (.iconst 0, 1) := by decide +kernel
theorem dX0_init_11 : decode cX0_init 11 = .ok (.putfield 15, 3) := by decide +kernel
theorem dX0_init_14 : decode cX0_init 14 = .ok (.return_, 1) := by decide +kernel
theorem dX0_run_0 : decode cX0_run 0 = .ok (.iconst 0, 1) := by decide +kernel
theorem dX0_run_1 : decode cX0_run 1 = .ok (.istore_n 3, 1) := by decide +kernel
theorem dX0_run_2 : decode cX0_run 2 = .ok (.aload_n 0, 1) := by decide +kernel
theorem dX0_run_3 : decode cX0_run 3 = .ok (.aload_n 1, 1) := by decide +kernel
theorem dX0_run_4 : decode cX0_run 4 = .ok (.iload_n 3, 1) := by decide +kernel
theorem dX0_run_5 : decode cX0_run 5 = .ok (.invokestatic 18, 3) := by decide +kernel
theorem dX0_run_8 : decode cX0_run 8 = .ok (.putfield 9, 3) := by decide +kernel
theorem dX0_run_11 : decode cX0_run 11 = .ok (.aload_n 0, 1) := by decide +kernel
theorem dX0_run_12 : decode cX0_run 12 = .ok (.iconst 0, 1) := by decide +kernel
theorem dX0_run_13 : decode cX0_run 13 = .ok (.putfield 15, 3) := by decide +kernel
theorem dX0_run_16 : decode cX0_run 16 = .ok (.iconst 0, 1) := by decide +kernel
theorem dX0_run_17 : decode cX0_run 17 = .ok (.istore 4, 2) := by decide +kernel
theorem dX0_run_19 : decode cX0_run 19 = .ok (.iload 4, 2) := by decide +kernel
theorem dX0_run_21 : decode cX0_run 21 = .ok (.aload_n 2, 1) := by decide +kernel
theorem dX0_run_22 : decode cX0_run 22 = .ok (.getfield 22, 3) := by decide +kernel
theorem dX0_run_25 : decode cX0_run 25 = .ok (.if_icmp .ge 61, 3) := by decide +kernel
theorem dX0_run_28 : decode cX0_run 28 = .ok (.iload 4, 2) := by decide +kernel
theorem dX0_run_30 : decode cX0_run 30 = .ok (.bipush 16, 2) := by decide +kernel
theorem dX0_run_32 : decode cX0_run 32 = .ok (.if_icmp .ge 54, 3) := by decide +kernel
theorem dX0_run_35 : decode cX0_run 35 = .ok (.iload_n 3, 1) := by decide +kernel
theorem dX0_run_36 : decode cX0_run 36 = .ok (.aload_n 1, 1) := by decide +kernel
theorem dX0_run_37 : decode cX0_run 37 = .ok (.getfield 27, 3) := by decide +kernel
theorem dX0_run_40 : decode cX0_run 40 = .ok (.aload_n 2, 1) := by decide +kernel
theorem dX0_run_41 : decode cX0_run 41 = .ok (.getfield 33, 3) := by decide +kernel
theorem dX0_run_44 : decode cX0_run 44 = .ok (.iload 4, 2) := by decide +kernel
theorem dX0_run_46 : decode cX0_run 46 = .ok (.iaload, 1) := by decide +kernel
theorem dX0_run_47 : decode cX0_run 47 = .ok (.iaload, 1) := by decide +kernel
theorem dX0_run_48 : decode cX0_run 48 = .ok (.ior, 1) := by decide +kernel
theorem dX0_run_49 : decode cX0_run 49 = .ok (.istore_n 3, 1) := by decide +kernel
theorem dX0_run_50 : decode cX0_run 50 = .ok (.aload_n 1, 1) := by decide +kernel
theorem dX0_run_51 : decode cX0_run 51 = .ok (.iload_n 3, 1) := by decide +kernel
theorem dX0_run_52 : decode cX0_run 52 = .ok (.invokestatic 18, 3) := by decide +kernel
theorem dX0_run_55 : decode cX0_run 55 = .ok (.istore 5, 2) := by decide +kernel
theorem dX0_run_57 : decode cX0_run 57 = .ok (.iload 5, 2) := by decide +kernel
theorem dX0_run_59 : decode cX0_run 59 = .ok (.aload_n 0, 1) := by decide +kernel
theorem dX0_run_60 : decode cX0_run 60 = .ok (.getfield 9, 3) := by decide +kernel
theorem dX0_run_63 : decode cX0_run 63 = .ok (.if_icmp .ge 17, 3) := by decide +kernel
theorem dX0_run_66 : decode cX0_run 66 = .ok (.aload_n 0, 1) := by decide +kernel
theorem dX0_run_67 : decode cX0_run 67 = .ok (.iload 5, 2) := by decide +kernel
theorem dX0_run_69 : decode cX0_run 69 = .ok (.putfield 9, 3) := by decide +kernel
theorem dX0_run_72 : decode cX0_run 72 = .ok (.aload_n 0, 1) := by decide +kernel
theorem dX0_run_73 : decode cX0_run 73 = .ok (.iload 4, 2) := by decide +kernel
theorem dX0_run_75 : decode cX0_run 75 = .ok (.iconst 1, 1) := by decide +kernel
theorem dX0_run_76 : decode cX0_run 76 = .ok (.iadd, 1) := by decide +kernel
theorem dX0_run_77 : decode cX0_run 77 = .ok (.putfield 15, 3) := by decide +kernel
theorem dX0_run_80 : decode cX0_run 80 = .ok (.iinc 4 1, 3) := by decide +kernel
theorem dX0_run_83 : decode cX0_run 83 = .ok (.goto (-64), 3) := by decide +kernel
theorem dX0_run_86 : decode cX0_run 86 = .ok (.return_, 1) := by decide +kernel
theorem dX0_ceilingBy_0 : decode cX0_ceilingBy 0 = .ok (.aload_n 0, 1) := by decide +kernel
theorem dX0_ceilingBy_1 : decode cX0_ceilingBy 1 = .ok (.iload_n 1, 1) := by decide +kernel
theorem dX0_ceilingBy_2 : decode cX0_ceilingBy 2 = .ok (.invokevirtual 36, 3) := by decide +kernel
theorem dX0_ceilingBy_5 : decode cX0_ceilingBy 5 = .ok (.lstore_n 2, 1) := by decide +kernel
theorem dX0_ceilingBy_6 : decode cX0_ceilingBy 6 = .ok (.aload_n 0, 1) := by decide +kernel
theorem dX0_ceilingBy_7 : decode cX0_ceilingBy 7 = .ok (.lload_n 2, 1) := by decide +kernel
theorem dX0_ceilingBy_8 : decode cX0_ceilingBy 8 = .ok (.invokevirtual 40, 3) := by decide +kernel
theorem dX0_ceilingBy_11 : decode cX0_ceilingBy 11 = .ok (.istore 4, 2) := by decide +kernel
theorem dX0_ceilingBy_13 : decode cX0_ceilingBy 13 = .ok (.aload_n 0, 1) := by decide +kernel
theorem dX0_ceilingBy_14 : decode cX0_ceilingBy 14 = .ok (.getfield 44, 3) := by decide +kernel
theorem dX0_ceilingBy_17 : decode cX0_ceilingBy 17 = .ok (.istore 5, 2) := by decide +kernel
theorem dX0_ceilingBy_19 : decode cX0_ceilingBy 19 = .ok (.aload_n 0, 1) := by decide +kernel
theorem dX0_ceilingBy_20 : decode cX0_ceilingBy 20 = .ok (.invokevirtual 47, 3) := by decide +kernel
theorem dX0_ceilingBy_23 : decode cX0_ceilingBy 23 = .ok (.iload_n 1, 1) := by decide +kernel
theorem dX0_ceilingBy_24 : decode cX0_ceilingBy 24 = .ok (.iconst (-1), 1) := by decide +kernel
theorem dX0_ceilingBy_25 : decode cX0_ceilingBy 25 = .ok (.ixor, 1) := by decide +kernel
theorem dX0_ceilingBy_26 : decode cX0_ceilingBy 26 = .ok (.iand, 1) := by decide +kernel
theorem dX0_ceilingBy_27 : decode cX0_ceilingBy 27 = .ok (.istore 6, 2) := by decide +kernel
theorem dX0_ceilingBy_29 : decode cX0_ceilingBy 29 = .ok (.iconst 0, 1) := by decide +kernel
theorem dX0_ceilingBy_30 : decode cX0_ceilingBy 30 = .ok (.istore 7, 2) := by decide +kernel
theorem dX0_ceilingBy_32 : decode cX0_ceilingBy 32 = .ok (.iload 7, 2) := by decide +kernel
theorem dX0_ceilingBy_34 : decode cX0_ceilingBy 34 = .ok (.bipush 16, 2) := by decide +kernel
theorem dX0_ceilingBy_36 : decode cX0_ceilingBy 36 = .ok (.if_icmp .ge 109, 3) := by decide +kernel
theorem dX0_ceilingBy_39 : decode cX0_ceilingBy 39 = .ok (.iload 6, 2) := by decide +kernel
theorem dX0_ceilingBy_41 : decode cX0_ceilingBy 41 = .ok (.ifCond .eq 104, 3) := by decide +kernel
theorem dX0_ceilingBy_44 : decode cX0_ceilingBy 44 = .ok (.aload_n 0, 1) := by decide +kernel
theorem dX0_ceilingBy_45 : decode cX0_ceilingBy 45 = .ok (.iload 6, 2) := by decide +kernel
theorem dX0_ceilingBy_47 : decode cX0_ceilingBy 47 = .ok (.lload_n 2, 1) := by decide +kernel
theorem dX0_ceilingBy_48 : decode cX0_ceilingBy 48 = .ok (.invokestatic 51, 3) := by decide +kernel
theorem dX0_ceilingBy_51 : decode cX0_ceilingBy 51 = .ok (.istore 8, 2) := by decide +kernel
theorem dX0_ceilingBy_53 : decode cX0_ceilingBy 53 = .ok (.iload 8, 2) := by decide +kernel
theorem dX0_ceilingBy_55 : decode cX0_ceilingBy 55 = .ok (.iconst (-1), 1) := by decide +kernel
theorem dX0_ceilingBy_56 : decode cX0_ceilingBy 56 = .ok (.if_icmp .ne 6, 3) := by decide +kernel
theorem dX0_ceilingBy_59 : decode cX0_ceilingBy 59 = .ok (.goto 86, 3) := by decide +kernel
theorem dX0_ceilingBy_62 : decode cX0_ceilingBy 62 = .ok (.aload_n 0, 1) := by decide +kernel
theorem dX0_ceilingBy_63 : decode cX0_ceilingBy 63 = .ok (.aload_n 0, 1) := by decide +kernel
theorem dX0_ceilingBy_64 : decode cX0_ceilingBy 64 = .ok (.getfield 55, 3) := by decide +kernel
theorem dX0_ceilingBy_67 : decode cX0_ceilingBy 67 = .ok (.iload 8, 2) := by decide +kernel
theorem dX0_ceilingBy_69 : decode cX0_ceilingBy 69 = .ok (.laload, 1) := by decide +kernel
theorem dX0_ceilingBy_70 : decode cX0_ceilingBy 70 = .ok (.lload_n 2, 1) := by decide +kernel
theorem dX0_ceilingBy_71 : decode cX0_ceilingBy 71 = .ok (.ldc2_w 59, 3) := by decide +kernel
theorem dX0_ceilingBy_74 : decode cX0_ceilingBy 74 = .ok (.lxor, 1) := by decide +kernel
theorem dX0_ceilingBy_75 : decode cX0_ceilingBy 75 = .ok (.land, 1) := by decide +kernel
theorem dX0_ceilingBy_76 : decode cX0_ceilingBy 76 = .ok (.invokevirtual 40, 3) := by decide +kernel
theorem dX0_ceilingBy_79 : decode cX0_ceilingBy 79 = .ok (.istore 9, 2) := by decide +kernel
theorem dX0_ceilingBy_81 : decode cX0_ceilingBy 81 = .ok (.aload_n 0, 1) := by decide +kernel
theorem dX0_ceilingBy_82 : decode cX0_ceilingBy 82 = .ok (.getfield 61, 3) := by decide +kernel
theorem dX0_ceilingBy_85 : decode cX0_ceilingBy 85 = .ok (.iload 8, 2) := by decide +kernel
theorem dX0_ceilingBy_87 : decode cX0_ceilingBy 87 = .ok (.iaload, 1) := by decide +kernel
theorem dX0_ceilingBy_88 : decode cX0_ceilingBy 88 = .ok (.istore 10, 2) := by decide +kernel
theorem dX0_ceilingBy_90 : decode cX0_ceilingBy 90 = .ok (.iload 10, 2) := by decide +kernel
theorem dX0_ceilingBy_92 : decode cX0_ceilingBy 92 = .ok (.ifCond .le 22, 3) := by decide +kernel
theorem dX0_ceilingBy_95 : decode cX0_ceilingBy 95 = .ok (.iload 10, 2) := by decide +kernel
theorem dX0_ceilingBy_97 : decode cX0_ceilingBy 97 = .ok (.iload 5, 2) := by decide +kernel
theorem dX0_ceilingBy_99 : decode cX0_ceilingBy 99 = .ok (.if_icmp .le 15, 3) := by decide +kernel
theorem dX0_ceilingBy_102 : decode cX0_ceilingBy 102 = .ok (.iload 4, 2) := by decide +kernel
theorem dX0_ceilingBy_104 : decode cX0_ceilingBy 104 = .ok (.iload 9, 2) := by decide +kernel
theorem dX0_ceilingBy_106 : decode cX0_ceilingBy 106 = .ok (.iload 5, 2) := by decide +kernel
theorem dX0_ceilingBy_108 : decode cX0_ceilingBy 108 = .ok (.imul, 1) := by decide +kernel
theorem dX0_ceilingBy_109 : decode cX0_ceilingBy 109 = .ok (.iload 10, 2) := by decide +kernel
theorem dX0_ceilingBy_111 : decode cX0_ceilingBy 111 = .ok (.idiv, 1) := by decide +kernel
theorem dX0_ceilingBy_112 : decode cX0_ceilingBy 112 = .ok (.iadd, 1) := by decide +kernel
theorem dX0_ceilingBy_113 : decode cX0_ceilingBy 113 = .ok (.ireturn, 1) := by decide +kernel
theorem dX0_ceilingBy_114 : decode cX0_ceilingBy 114 = .ok (.iload 4, 2) := by decide +kernel
theorem dX0_ceilingBy_116 : decode cX0_ceilingBy 116 = .ok (.iload 9, 2) := by decide +kernel
theorem dX0_ceilingBy_118 : decode cX0_ceilingBy 118 = .ok (.iadd, 1) := by decide +kernel
theorem dX0_ceilingBy_119 : decode cX0_ceilingBy 119 = .ok (.istore 4, 2) := by decide +kernel
theorem dX0_ceilingBy_121 : decode cX0_ceilingBy 121 = .ok (.iload 5, 2) := by decide +kernel
theorem dX0_ceilingBy_123 : decode cX0_ceilingBy 123 = .ok (.iload 10, 2) := by decide +kernel
theorem dX0_ceilingBy_125 : decode cX0_ceilingBy 125 = .ok (.isub, 1) := by decide +kernel
theorem dX0_ceilingBy_126 : decode cX0_ceilingBy 126 = .ok (.istore 5, 2) := by decide +kernel
theorem dX0_ceilingBy_128 : decode cX0_ceilingBy 128 = .ok (.iload 6, 2) := by decide +kernel
theorem dX0_ceilingBy_130 : decode cX0_ceilingBy 130 = .ok (.iconst 1, 1) := by decide +kernel
theorem dX0_ceilingBy_131 : decode cX0_ceilingBy 131 = .ok (.iload 8, 2) := by decide +kernel
theorem dX0_ceilingBy_133 : decode cX0_ceilingBy 133 = .ok (.ishl, 1) := by decide +kernel
theorem dX0_ceilingBy_134 : decode cX0_ceilingBy 134 = .ok (.iconst (-1), 1) := by decide +kernel
theorem dX0_ceilingBy_135 : decode cX0_ceilingBy 135 = .ok (.ixor, 1) := by decide +kernel
theorem dX0_ceilingBy_136 : decode cX0_ceilingBy 136 = .ok (.iand, 1) := by decide +kernel
theorem dX0_ceilingBy_137 : decode cX0_ceilingBy 137 = .ok (.istore 6, 2) := by decide +kernel
theorem dX0_ceilingBy_139 : decode cX0_ceilingBy 139 = .ok (.iinc 7 1, 3) := by decide +kernel
theorem dX0_ceilingBy_142 : decode cX0_ceilingBy 142 = .ok (.goto (-110), 3) := by decide +kernel
theorem dX0_ceilingBy_145 : decode cX0_ceilingBy 145 = .ok (.iload 4, 2) := by decide +kernel
theorem dX0_ceilingBy_147 : decode cX0_ceilingBy 147 = .ok (.ireturn, 1) := by decide +kernel
theorem dX0_densest_0 : decode cX0_densest 0 = .ok (.iconst (-1), 1) := by decide +kernel
theorem dX0_densest_1 : decode cX0_densest 1 = .ok (.istore 4, 2) := by decide +kernel
theorem dX0_densest_3 : decode cX0_densest 3 = .ok (.iconst 0, 1) := by decide +kernel
theorem dX0_densest_4 : decode cX0_densest 4 = .ok (.istore 5, 2) := by decide +kernel
theorem dX0_densest_6 : decode cX0_densest 6 = .ok (.iconst 1, 1) := by decide +kernel
theorem dX0_densest_7 : decode cX0_densest 7 = .ok (.istore 6, 2) := by decide +kernel
theorem dX0_densest_9 : decode cX0_densest 9 = .ok (.iconst 0, 1) := by decide +kernel
theorem dX0_densest_10 : decode cX0_densest 10 = .ok (.istore 7, 2) := by decide +kernel
theorem dX0_densest_12 : decode cX0_densest 12 = .ok (.iload 7, 2) := by decide +kernel
theorem dX0_densest_14 : decode cX0_densest 14 = .ok (.aload_n 0, 1) := by decide +kernel
theorem dX0_densest_15 : decode cX0_densest 15 = .ok (.getfield 64, 3) := by decide +kernel
theorem dX0_densest_18 : decode cX0_densest 18 = .ok (.if_icmp .ge 73, 3) := by decide +kernel
theorem dX0_densest_21 : decode cX0_densest 21 = .ok (.iload 7, 2) := by decide +kernel
theorem dX0_densest_23 : decode cX0_densest 23 = .ok (.iload_n 1, 1) := by decide +kernel
theorem dX0_densest_24 : decode cX0_densest 24 = .ok (.invokestatic 67, 3) := by decide +kernel
theorem dX0_densest_27 : decode cX0_densest 27 = .ok (.ifCond .eq 58, 3) := by decide +kernel
theorem dX0_densest_30 : decode cX0_densest 30 = .ok (.aload_n 0, 1) := by decide +kernel
theorem dX0_densest_31 : decode cX0_densest 31 = .ok (.aload_n 0, 1) := by decide +kernel
theorem dX0_densest_32 : decode cX0_densest 32 = .ok (.getfield 55, 3) := by decide +kernel
theorem dX0_densest_35 : decode cX0_densest 35 = .ok (.iload 7, 2) := by decide +kernel
theorem dX0_densest_37 : decode cX0_densest 37 = .ok (.laload, 1) := by decide +kernel
theorem dX0_densest_38 : decode cX0_densest 38 = .ok (.lload_n 2, 1) := by decide +kernel
theorem dX0_densest_39 : decode cX0_densest 39 = .ok (.ldc2_w 59, 3) := by decide +kernel
theorem dX0_densest_42 : decode cX0_densest 42 = .ok (.lxor, 1) := by decide +kernel
theorem dX0_densest_43 : decode cX0_densest 43 = .ok (.land, 1) := by decide +kernel
theorem dX0_densest_44 : decode cX0_densest 44 = .ok (.invokevirtual 40, 3) := by decide +kernel
theorem dX0_densest_47 : decode cX0_densest 47 = .ok (.istore 8, 2) := by decide +kernel
theorem dX0_densest_49 : decode cX0_densest 49 = .ok (.iload 8, 2) := by decide +kernel
theorem dX0_densest_51 : decode cX0_densest 51 = .ok (.aload_n 0, 1) := by decide +kernel
theorem dX0_densest_52 : decode cX0_densest 52 = .ok (.getfield 61, 3) := by decide +kernel
theorem dX0_densest_55 : decode cX0_densest 55 = .ok (.iload 7, 2) := by decide +kernel
theorem dX0_densest_57 : decode cX0_densest 57 = .ok (.iaload, 1) := by decide +kernel
theorem dX0_densest_58 : decode cX0_densest 58 = .ok (.iload 5, 2) := by decide +kernel
theorem dX0_densest_60 : decode cX0_densest 60 = .ok (.iload 6, 2) := by decide +kernel
theorem dX0_densest_62 : decode cX0_densest 62 = .ok (.invokestatic 71, 3) := by decide +kernel
theorem dX0_densest_65 : decode cX0_densest 65 = .ok (.ifCond .eq 20, 3) := by decide +kernel
theorem dX0_densest_68 : decode cX0_densest 68 = .ok (.iload 7, 2) := by decide +kernel
theorem dX0_densest_70 : decode cX0_densest 70 = .ok (.istore 4, 2) := by decide +kernel
theorem dX0_densest_72 : decode cX0_densest 72 = .ok (.iload 8, 2) := by decide +kernel
theorem dX0_densest_74 : decode cX0_densest 74 = .ok (.istore 5, 2) := by decide +kernel
theorem dX0_densest_76 : decode cX0_densest 76 = .ok (.aload_n 0, 1) := by decide +kernel
theorem dX0_densest_77 : decode cX0_densest 77 = .ok (.getfield 61, 3) := by decide +kernel
theorem dX0_densest_80 : decode cX0_densest 80 = .ok (.iload 7, 2) := by decide +kernel
theorem dX0_densest_82 : decode cX0_densest 82 = .ok (.iaload, 1) := by decide +kernel
theorem dX0_densest_83 : decode cX0_densest 83 = .ok (.istore 6, 2) := by decide +kernel
theorem dX0_densest_85 : decode cX0_densest 85 = .ok (.iinc 7 1, 3) := by decide +kernel
theorem dX0_densest_88 : decode cX0_densest 88 = .ok (.goto (-76), 3) := by decide +kernel
theorem dX0_densest_91 : decode cX0_densest 91 = .ok (.iload 4, 2) := by decide +kernel
theorem dX0_densest_93 : decode cX0_densest 93 = .ok (.ireturn, 1) := by decide +kernel
theorem dX1_init_0 : decode cX1_init 0 = .ok (.aload_n 0, 1) := by decide +kernel
theorem dX1_init_1 : decode cX1_init 1 = .ok (.invokespecial 3, 3) := by decide +kernel
theorem dX1_init_4 : decode cX1_init 4 = .ok (.aload_n 0, 1) := by decide +kernel
theorem dX1_init_5 : decode cX1_init 5 = .ok (.bipush 16, 2) := by decide +kernel
theorem dX1_init_7 : decode cX1_init 7 = .ok (.newarray .int, 2) := by decide +kernel
theorem dX1_init_9 : decode cX1_init 9 = .ok (.putfield 9, 3) := by decide +kernel
theorem dX1_init_12 : decode cX1_init 12 = .ok (.aload_n 0, 1) := by decide +kernel
theorem dX1_init_13 : decode cX1_init 13 = .ok (.iconst 0, 1) := by decide +kernel
theorem dX1_init_14 : decode cX1_init 14 = .ok (.putfield 15, 3) := by decide +kernel
theorem dX1_init_17 : decode cX1_init 17 = .ok (.aload_n 0, 1) := by decide +kernel
theorem dX1_init_18 : decode cX1_init 18 = .ok (.iconst 0, 1) := by decide +kernel
theorem dX1_init_19 : decode cX1_init 19 = .ok (.putfield 19, 3) := by decide +kernel
theorem dX1_init_22 : decode cX1_init 22 = .ok (.aload_n 0, 1) := by decide +kernel
theorem dX1_init_23 : decode cX1_init 23 = .ok (.iconst 0, 1) := by decide +kernel
theorem dX1_init_24 : decode cX1_init 24 = .ok (.putfield 22, 3) := by decide +kernel
theorem dX1_init_27 : decode cX1_init 27 = .ok (.return_, 1) := by decide +kernel
theorem dX1_run_0 : decode cX1_run 0 = .ok (.aload_n 0, 1) := by decide +kernel
theorem dX1_run_1 : decode cX1_run 1 = .ok (.iconst 0, 1) := by decide +kernel
theorem dX1_run_2 : decode cX1_run 2 = .ok (.putfield 19, 3) := by decide +kernel
theorem dX1_run_5 : decode cX1_run 5 = .ok (.aload_n 0, 1) := by decide +kernel
theorem dX1_run_6 : decode cX1_run 6 = .ok (.iconst 0, 1) := by decide +kernel
theorem dX1_run_7 : decode cX1_run 7 = .ok (.putfield 15, 3) := by decide +kernel
theorem dX1_run_10 : decode cX1_run 10 = .ok (.aload_n 0, 1) := by decide +kernel
theorem dX1_run_11 : decode cX1_run 11 = .ok (.iconst 0, 1) := by decide +kernel
theorem dX1_run_12 : decode cX1_run 12 = .ok (.putfield 22, 3) := by decide +kernel
theorem dX1_run_15 : decode cX1_run 15 = .ok (.iconst 0, 1) := by decide +kernel
theorem dX1_run_16 : decode cX1_run 16 = .ok (.istore_n 3, 1) := by decide +kernel
theorem dX1_run_17 : decode cX1_run 17 = .ok (.iload_n 3, 1) := by decide +kernel
theorem dX1_run_18 : decode cX1_run 18 = .ok (.aload_n 1, 1) := by decide +kernel
theorem dX1_run_19 : decode cX1_run 19 = .ok (.getfield 25, 3) := by decide +kernel
theorem dX1_run_22 : decode cX1_run 22 = .ok (.if_icmp .gt 97, 3) := by decide +kernel
theorem dX1_run_25 : decode cX1_run 25 = .ok (.aload_n 0, 1) := by decide +kernel
theorem dX1_run_26 : decode cX1_run 26 = .ok (.dup, 1) := by decide +kernel
theorem dX1_run_27 : decode cX1_run 27 = .ok (.getfield 22, 3) := by decide +kernel
theorem dX1_run_30 : decode cX1_run 30 = .ok (.aload_n 0, 1) := by decide +kernel
theorem dX1_run_31 : decode cX1_run 31 = .ok (.aload_n 1, 1) := by decide +kernel
theorem dX1_run_32 : decode cX1_run 32 = .ok (.invokevirtual 30, 3) := by decide +kernel
theorem dX1_run_35 : decode cX1_run 35 = .ok (.iadd, 1) := by decide +kernel
theorem dX1_run_36 : decode cX1_run 36 = .ok (.putfield 22, 3) := by decide +kernel
theorem dX1_run_39 : decode cX1_run 39 = .ok (.aload_n 1, 1) := by decide +kernel
theorem dX1_run_40 : decode cX1_run 40 = .ok (.aload_n 0, 1) := by decide +kernel
theorem dX1_run_41 : decode cX1_run 41 = .ok (.getfield 19, 3) := by decide +kernel
theorem dX1_run_44 : decode cX1_run 44 = .ok (.iload_n 2, 1) := by decide +kernel
theorem dX1_run_45 : decode cX1_run 45 = .ok (.ifCond .eq 7, 3) := by decide +kernel
theorem dX1_run_48 : decode cX1_run 48 = .ok (.iconst 1, 1) := by decide +kernel
theorem dX1_run_49 : decode cX1_run 49 = .ok (.goto 4, 3) := by decide +kernel
theorem dX1_run_52 : decode cX1_run 52 = .ok (.iconst 0, 1) := by decide +kernel
theorem dX1_run_53 : decode cX1_run 53 = .ok (.invokestatic 34, 3) := by decide +kernel
theorem dX1_run_56 : decode cX1_run 56 = .ok (.istore 4, 2) := by decide +kernel
theorem dX1_run_58 : decode cX1_run 58 = .ok (.iload 4, 2) := by decide +kernel
theorem dX1_run_60 : decode cX1_run 60 = .ok (.iconst (-1), 1) := by decide +kernel
theorem dX1_run_61 : decode cX1_run 61 = .ok (.if_icmp .eq 58, 3) := by decide +kernel
theorem dX1_run_64 : decode cX1_run 64 = .ok (.aload_n 0, 1) := by decide +kernel
theorem dX1_run_65 : decode cX1_run 65 = .ok (.getfield 15, 3) := by decide +kernel
theorem dX1_run_68 : decode cX1_run 68 = .ok (.bipush 16, 2) := by decide +kernel
theorem dX1_run_70 : decode cX1_run 70 = .ok (.if_icmp .lt 6, 3) := by decide +kernel
theorem dX1_run_73 : decode cX1_run 73 = .ok (.goto 46, 3) := by decide +kernel
theorem dX1_run_76 : decode cX1_run 76 = .ok (.aload_n 0, 1) := by decide +kernel
theorem dX1_run_77 : decode cX1_run 77 = .ok (.getfield 9, 3) := by decide +kernel
theorem dX1_run_80 : decode cX1_run 80 = .ok (.aload_n 0, 1) := by decide +kernel
theorem dX1_run_81 : decode cX1_run 81 = .ok (.getfield 15, 3) := by decide +kernel
theorem dX1_run_84 : decode cX1_run 84 = .ok (.iload 4, 2) := by decide +kernel
theorem dX1_run_86 : decode cX1_run 86 = .ok (.iastore, 1) := by decide +kernel
theorem dX1_run_87 : decode cX1_run 87 = .ok (.aload_n 0, 1) := by decide +kernel
theorem dX1_run_88 : decode cX1_run 88 = .ok (.dup, 1) := by decide +kernel
theorem dX1_run_89 : decode cX1_run 89 = .ok (.getfield 15, 3) := by decide +kernel
theorem dX1_run_92 : decode cX1_run 92 = .ok (.iconst 1, 1) := by decide +kernel
theorem dX1_run_93 : decode cX1_run 93 = .ok (.iadd, 1) := by decide +kernel
theorem dX1_run_94 : decode cX1_run 94 = .ok (.putfield 15, 3) := by decide +kernel
theorem dX1_run_97 : decode cX1_run 97 = .ok (.aload_n 0, 1) := by decide +kernel
theorem dX1_run_98 : decode cX1_run 98 = .ok (.dup, 1) := by decide +kernel
theorem dX1_run_99 : decode cX1_run 99 = .ok (.getfield 19, 3) := by decide +kernel
theorem dX1_run_102 : decode cX1_run 102 = .ok (.aload_n 1, 1) := by decide +kernel
theorem dX1_run_103 : decode cX1_run 103 = .ok (.getfield 38, 3) := by decide +kernel
theorem dX1_run_106 : decode cX1_run 106 = .ok (.iload 4, 2) := by decide +kernel
theorem dX1_run_108 : decode cX1_run 108 = .ok (.iaload, 1) := by decide +kernel
theorem dX1_run_109 : decode cX1_run 109 = .ok (.ior, 1) := by decide +kernel
theorem dX1_run_110 : decode cX1_run 110 = .ok (.putfield 19, 3) := by decide +kernel
theorem dX1_run_113 : decode cX1_run 113 = .ok (.iinc 3 1, 3) := by decide +kernel
theorem dX1_run_116 : decode cX1_run 116 = .ok (.goto (-99), 3) := by decide +kernel
theorem dX1_run_119 : decode cX1_run 119 = .ok (.iload_n 2, 1) := by decide +kernel
theorem dX1_run_120 : decode cX1_run 120 = .ok (.iconst 2, 1) := by decide +kernel
theorem dX1_run_121 : decode cX1_run 121 = .ok (.if_icmp .ne 8, 3) := by decide +kernel
theorem dX1_run_124 : decode cX1_run 124 = .ok (.aload_n 0, 1) := by decide +kernel
theorem dX1_run_125 : decode cX1_run 125 = .ok (.aload_n 1, 1) := by decide +kernel
theorem dX1_run_126 : decode cX1_run 126 = .ok (.invokevirtual 41, 3) := by decide +kernel
theorem dX1_run_129 : decode cX1_run 129 = .ok (.return_, 1) := by decide +kernel
theorem dX1_compareWithSingle_0 : decode cX1_compareWithSingle 0 = .ok (.aload_n 1, 1) := by decide +kernel
theorem dX1_compareWithSingle_1 : decode cX1_compareWithSingle 1 = .ok (.iconst 0, 1) := by decide +kernel
theorem dX1_compareWithSingle_2 : decode cX1_compareWithSingle 2 = .ok (.iconst 0, 1) := by decide +kernel
theorem dX1_compareWithSingle_3 : decode cX1_compareWithSingle 3 = .ok (.invokestatic 34, 3) := by decide +kernel
theorem dX1_compareWithSingle_6 : decode cX1_compareWithSingle 6 = .ok (.istore_n 2, 1) := by decide +kernel
theorem dX1_compareWithSingle_7 : decode cX1_compareWithSingle 7 = .ok (.iload_n 2, 1) := by decide +kernel
theorem dX1_compareWithSingle_8 : decode cX1_compareWithSingle 8 = .ok (.iconst (-1), 1) := by decide +kernel
theorem dX1_compareWithSingle_9 : decode cX1_compareWithSingle 9 = .ok (.if_icmp .eq 42, 3) := by decide +kernel
theorem dX1_compareWithSingle_12 : decode cX1_compareWithSingle 12 = .ok (.aload_n 1, 1) := by decide +kernel
theorem dX1_compareWithSingle_13 : decode cX1_compareWithSingle 13 = .ok (.iload_n 2, 1) := by decide +kernel
theorem dX1_compareWithSingle_14 : decode cX1_compareWithSingle 14 = .ok (.iconst 0, 1) := by decide +kernel
theorem dX1_compareWithSingle_15 : decode cX1_compareWithSingle 15 = .ok (.invokevirtual 45, 3) := by decide +kernel
theorem dX1_compareWithSingle_18 : decode cX1_compareWithSingle 18 = .ok (.aload_n 1, 1) := by decide +kernel
theorem dX1_compareWithSingle_19 : decode cX1_compareWithSingle 19 = .ok (.aload_n 0, 1) := by decide +kernel
theorem dX1_compareWithSingle_20 : decode cX1_compareWithSingle 20 = .ok (.getfield 19, 3) := by decide +kernel
theorem dX1_compareWithSingle_23 : decode cX1_compareWithSingle 23 = .ok (.invokevirtual 49, 3) := by decide +kernel
theorem dX1_compareWithSingle_26 : decode cX1_compareWithSingle 26 = .ok (.if_icmp .le 25, 3) := by decide +kernel
theorem dX1_compareWithSingle_29 : decode cX1_compareWithSingle 29 = .ok (.aload_n 0, 1) := by decide +kernel
theorem dX1_compareWithSingle_30 : decode cX1_compareWithSingle 30 = .ok (.aload_n 1, 1) := by decide +kernel
theorem dX1_compareWithSingle_31 : decode cX1_compareWithSingle 31 = .ok (.getfield 38, 3) := by decide +kernel
theorem dX1_compareWithSingle_34 : decode cX1_compareWithSingle 34 = .ok (.iload_n 2, 1) := by decide +kernel
theorem dX1_compareWithSingle_35 : decode cX1_compareWithSingle 35 = .ok (.iaload, 1) := by decide +kernel
theorem dX1_compareWithSingle_36 : decode cX1_compareWithSingle 36 = .ok (.putfield 19, 3) := by decide +kernel
theorem dX1_compareWithSingle_39 : decode cX1_compareWithSingle 39 = .ok (.aload_n 0, 1) := by decide +kernel
theorem dX1_compareWithSingle_40 : decode cX1_compareWithSingle 40 = .ok (.getfield 9, 3) := by decide +kernel
theorem dX1_compareWithSingle_43 : decode cX1_compareWithSingle 43 = .ok (.iconst 0, 1) := by decide +kernel
theorem dX1_compareWithSingle_44 : decode cX1_compareWithSingle 44 = .ok (.iload_n 2, 1) := by decide +kernel
theorem dX1_compareWithSingle_45 : decode cX1_compareWithSingle 45 = .ok (.iastore, 1) := by decide +kernel
theorem dX1_compareWithSingle_46 : decode cX1_compareWithSingle 46 = .ok (.aload_n 0, 1) := by decide +kernel
theorem dX1_compareWithSingle_47 : decode cX1_compareWithSingle 47 = .ok (.iconst 1, 1) := by decide +kernel
theorem dX1_compareWithSingle_48 : decode cX1_compareWithSingle 48 = .ok (.putfield 15, 3) := by decide +kernel
theorem dX1_compareWithSingle_51 : decode cX1_compareWithSingle 51 = .ok (.return_, 1) := by decide +kernel
theorem dX1_fitting_0 : decode cX1_fitting 0 = .ok (.iconst 0, 1) := by decide +kernel
theorem dX1_fitting_1 : decode cX1_fitting 1 = .ok (.istore_n 2, 1) := by decide +kernel
theorem dX1_fitting_2 : decode cX1_fitting 2 = .ok (.iconst 0, 1) := by decide +kernel
theorem dX1_fitting_3 : decode cX1_fitting 3 = .ok (.istore_n 3, 1) := by decide +kernel
theorem dX1_fitting_4 : decode cX1_fitting 4 = .ok (.iload_n 3, 1) := by decide +kernel
theorem dX1_fitting_5 : decode cX1_fitting 5 = .ok (.aload_n 1, 1) := by decide +kernel
theorem dX1_fitting_6 : decode cX1_fitting 6 = .ok (.getfield 25, 3) := by decide +kernel
theorem dX1_fitting_9 : decode cX1_fitting 9 = .ok (.if_icmp .ge 24, 3) := by decide +kernel
theorem dX1_fitting_12 : decode cX1_fitting 12 = .ok (.aload_n 1, 1) := by decide +kernel
theorem dX1_fitting_13 : decode cX1_fitting 13 = .ok (.iload_n 3, 1) := by decide +kernel
theorem dX1_fitting_14 : decode cX1_fitting 14 = .ok (.aload_n 0, 1) := by decide +kernel
theorem dX1_fitting_15 : decode cX1_fitting 15 = .ok (.getfield 19, 3) := by decide +kernel
theorem dX1_fitting_18 : decode cX1_fitting 18 = .ok (.invokevirtual 53, 3) := by decide +kernel
theorem dX1_fitting_21 : decode cX1_fitting 21 = .ok (.ifCond .eq 6, 3) := by decide +kernel
theorem dX1_fitting_24 : decode cX1_fitting 24 = .ok (.iinc 2 1, 3) := by decide +kernel
theorem dX1_fitting_27 : decode cX1_fitting 27 = .ok (.iinc 3 1, 3) := by decide +kernel
theorem dX1_fitting_30 : decode cX1_fitting 30 = .ok (.goto (-26), 3) := by decide +kernel
theorem dX1_fitting_33 : decode cX1_fitting 33 = .ok (.iload_n 2, 1) := by decide +kernel
theorem dX1_fitting_34 : decode cX1_fitting 34 = .ok (.ireturn, 1) := by decide +kernel
theorem dX1_pickFor_0 : decode cX1_pickFor 0 = .ok (.iconst (-1), 1) := by decide +kernel
theorem dX1_pickFor_1 : decode cX1_pickFor 1 = .ok (.istore_n 3, 1) := by decide +kernel
theorem dX1_pickFor_2 : decode cX1_pickFor 2 = .ok (.iconst 0, 1) := by decide +kernel
theorem dX1_pickFor_3 : decode cX1_pickFor 3 = .ok (.istore 4, 2) := by decide +kernel
theorem dX1_pickFor_5 : decode cX1_pickFor 5 = .ok (.iconst 1, 1) := by decide +kernel
theorem dX1_pickFor_6 : decode cX1_pickFor 6 = .ok (.istore 5, 2) := by decide +kernel
theorem dX1_pickFor_8 : decode cX1_pickFor 8 = .ok (.iconst 0, 1) := by decide +kernel
theorem dX1_pickFor_9 : decode cX1_pickFor 9 = .ok (.istore 6, 2) := by decide +kernel
theorem dX1_pickFor_11 : decode cX1_pickFor 11 = .ok (.iload 6, 2) := by decide +kernel
theorem dX1_pickFor_13 : decode cX1_pickFor 13 = .ok (.aload_n 0, 1) := by decide +kernel
theorem dX1_pickFor_14 : decode cX1_pickFor 14 = .ok (.getfield 25, 3) := by decide +kernel
theorem dX1_pickFor_17 : decode cX1_pickFor 17 = .ok (.if_icmp .ge 70, 3) := by decide +kernel
theorem dX1_pickFor_20 : decode cX1_pickFor 20 = .ok (.aload_n 0, 1) := by decide +kernel
theorem dX1_pickFor_21 : decode cX1_pickFor 21 = .ok (.iload 6, 2) := by decide +kernel
theorem dX1_pickFor_23 : decode cX1_pickFor 23 = .ok (.iload_n 1, 1) := by decide +kernel
theorem dX1_pickFor_24 : decode cX1_pickFor 24 = .ok (.invokevirtual 53, 3) := by decide +kernel
theorem dX1_pickFor_27 : decode cX1_pickFor 27 = .ok (.ifCond .eq 54, 3) := by decide +kernel
theorem dX1_pickFor_30 : decode cX1_pickFor 30 = .ok (.aload_n 0, 1) := by decide +kernel
theorem dX1_pickFor_31 : decode cX1_pickFor 31 = .ok (.iload 6, 2) := by decide +kernel
theorem dX1_pickFor_33 : decode cX1_pickFor 33 = .ok (.iload_n 1, 1) := by decide +kernel
theorem dX1_pickFor_34 : decode cX1_pickFor 34 = .ok (.invokevirtual 45, 3) := by decide +kernel
theorem dX1_pickFor_37 : decode cX1_pickFor 37 = .ok (.istore 7, 2) := by decide +kernel
theorem dX1_pickFor_39 : decode cX1_pickFor 39 = .ok (.iload_n 2, 1) := by decide +kernel
theorem dX1_pickFor_40 : decode cX1_pickFor 40 = .ok (.ifCond .eq 13, 3) := by decide +kernel
theorem dX1_pickFor_43 : decode cX1_pickFor 43 = .ok (.aload_n 0, 1) := by decide +kernel
theorem dX1_pickFor_44 : decode cX1_pickFor 44 = .ok (.iload 6, 2) := by decide +kernel
theorem dX1_pickFor_46 : decode cX1_pickFor 46 = .ok (.iload_n 1, 1) := by decide +kernel
theorem dX1_pickFor_47 : decode cX1_pickFor 47 = .ok (.invokevirtual 57, 3) := by decide +kernel
theorem dX1_pickFor_50 : decode cX1_pickFor 50 = .ok (.goto 4, 3) := by decide +kernel
theorem dX1_pickFor_53 : decode cX1_pickFor 53 = .ok (.iconst 1, 1) := by decide +kernel
theorem dX1_pickFor_54 : decode cX1_pickFor 54 = .ok (.istore 8, 2) := by decide +kernel
theorem dX1_pickFor_56 : decode cX1_pickFor 56 = .ok (.iload 7, 2) := by decide +kernel
theorem dX1_pickFor_58 : decode cX1_pickFor 58 = .ok (.iload 8, 2) := by decide +kernel
theorem dX1_pickFor_60 : decode cX1_pickFor 60 = .ok (.iload 4, 2) := by decide +kernel
theorem dX1_pickFor_62 : decode cX1_pickFor 62 = .ok (.iload 5, 2) := by decide +kernel
theorem dX1_pickFor_64 : decode cX1_pickFor 64 = .ok (.invokestatic 60, 3) := by decide +kernel
theorem dX1_pickFor_67 : decode cX1_pickFor 67 = .ok (.ifCond .eq 14, 3) := by decide +kernel
theorem dX1_pickFor_70 : decode cX1_pickFor 70 = .ok (.iload 6, 2) := by decide +kernel
theorem dX1_pickFor_72 : decode cX1_pickFor 72 = .ok (.istore_n 3, 1) := by decide +kernel
theorem dX1_pickFor_73 : decode cX1_pickFor 73 = .ok (.iload 7, 2) := by decide +kernel
theorem dX1_pickFor_75 : decode cX1_pickFor 75 = .ok (.istore 4, 2) := by decide +kernel
theorem dX1_pickFor_77 : decode cX1_pickFor 77 = .ok (.iload 8, 2) := by decide +kernel
theorem dX1_pickFor_79 : decode cX1_pickFor 79 = .ok (.istore 5, 2) := by decide +kernel
theorem dX1_pickFor_81 : decode cX1_pickFor 81 = .ok (.iinc 6 1, 3) := by decide +kernel
theorem dX1_pickFor_84 : decode cX1_pickFor 84 = .ok (.goto (-73), 3) := by decide +kernel
theorem dX1_pickFor_87 : decode cX1_pickFor 87 = .ok (.iload_n 3, 1) := by decide +kernel
theorem dX1_pickFor_88 : decode cX1_pickFor 88 = .ok (.ireturn, 1) := by decide +kernel
theorem dX2_init_0 : decode cX2_init 0 = .ok (.aload_n 0, 1) := by decide +kernel
theorem dX2_init_1 : decode cX2_init 1 = .ok (.invokespecial 3, 3) := by decide +kernel
theorem dX2_init_4 : decode cX2_init 4 = .ok (.aload_n 0, 1) := by decide +kernel
theorem dX2_init_5 : decode cX2_init 5 = .ok (.bipush 8, 2) := by decide +kernel
theorem dX2_init_7 : decode cX2_init 7 = .ok (.anewarray 9, 3) := by decide +kernel
theorem dX2_init_10 : decode cX2_init 10 = .ok (.putfield 11, 3) := by decide +kernel
theorem dX2_init_13 : decode cX2_init 13 = .ok (.aload_n 0, 1) := by decide +kernel
theorem dX2_init_14 : decode cX2_init 14 = .ok (.iconst 0, 1) := by decide +kernel
theorem dX2_init_15 : decode cX2_init 15 = .ok (.putfield 17, 3) := by decide +kernel
theorem dX2_init_18 : decode cX2_init 18 = .ok (.aload_n 0, 1) := by decide +kernel
theorem dX2_init_19 : decode cX2_init 19 = .ok (.iconst 0, 1) := by decide +kernel
theorem dX2_init_20 : decode cX2_init 20 = .ok (.putfield 21, 3) := by decide +kernel
theorem dX2_init_23 : decode cX2_init 23 = .ok (.iconst 0, 1) := by decide +kernel
theorem dX2_init_24 : decode cX2_init 24 = .ok (.istore_n 1, 1) := by decide +kernel
theorem dX2_init_25 : decode cX2_init 25 = .ok (.iload_n 1, 1) := by decide +kernel
theorem dX2_init_26 : decode cX2_init 26 = .ok (.bipush 8, 2) := by decide +kernel
theorem dX2_init_28 : decode cX2_init 28 = .ok (.if_icmp .ge 22, 3) := by decide +kernel
theorem dX2_init_31 : decode cX2_init 31 = .ok (.aload_n 0, 1) := by decide +kernel
theorem dX2_init_32 : decode cX2_init 32 = .ok (.getfield 11, 3) := by decide +kernel
theorem dX2_init_35 : decode cX2_init 35 = .ok (.iload_n 1, 1) := by decide +kernel
theorem dX2_init_36 : decode cX2_init 36 = .ok (.new 9, 3) := by decide +kernel
theorem dX2_init_39 : decode cX2_init 39 = .ok (.dup, 1) := by decide +kernel
theorem dX2_init_40 : decode cX2_init 40 = .ok (.invokespecial 24, 3) := by decide +kernel
theorem dX2_init_43 : decode cX2_init 43 = .ok (.aastore, 1) := by decide +kernel
theorem dX2_init_44 : decode cX2_init 44 = .ok (.iinc 1 1, 3) := by decide +kernel
theorem dX2_init_47 : decode cX2_init 47 = .ok (.goto (-22), 3) := by decide +kernel
theorem dX2_init_50 : decode cX2_init 50 = .ok (.return_, 1) := by decide +kernel
theorem dX2_keep_0 : decode cX2_keep 0 = .ok (.aload_n 0, 1) := by decide +kernel
theorem dX2_keep_1 : decode cX2_keep 1 = .ok (.getfield 21, 3) := by decide +kernel
theorem dX2_keep_4 : decode cX2_keep 4 = .ok (.bipush 8, 2) := by decide +kernel
theorem dX2_keep_6 : decode cX2_keep 6 = .ok (.if_icmp .ne 26, 3) := by decide +kernel
theorem dX2_keep_9 : decode cX2_keep 9 = .ok (.aload_n 0, 1) := by decide +kernel
theorem dX2_keep_10 : decode cX2_keep 10 = .ok (.aload_n 0, 1) := by decide +kernel
theorem dX2_keep_11 : decode cX2_keep 11 = .ok (.getfield 17, 3) := by decide +kernel
theorem dX2_keep_14 : decode cX2_keep 14 = .ok (.iconst 1, 1) := by decide +kernel
theorem dX2_keep_15 : decode cX2_keep 15 = .ok (.iadd, 1) := by decide +kernel
theorem dX2_keep_16 : decode cX2_keep 16 = .ok (.bipush 8, 2) := by decide +kernel
theorem dX2_keep_18 : decode cX2_keep 18 = .ok (.irem, 1) := by decide +kernel
theorem dX2_keep_19 : decode cX2_keep 19 = .ok (.putfield 17, 3) := by decide +kernel
theorem dX2_keep_22 : decode cX2_keep 22 = .ok (.aload_n 0, 1) := by decide +kernel
theorem dX2_keep_23 : decode cX2_keep 23 = .ok (.dup, 1) := by decide +kernel
theorem dX2_keep_24 : decode cX2_keep 24 = .ok (.getfield 21, 3) := by decide +kernel
theorem dX2_keep_27 : decode cX2_keep 27 = .ok (.iconst 1, 1) := by decide +kernel
theorem dX2_keep_28 : decode cX2_keep 28 = .ok (.isub, 1) := by decide +kernel
theorem dX2_keep_29 : decode cX2_keep 29 = .ok (.putfield 21, 3) := by decide +kernel
theorem dX2_keep_32 : decode cX2_keep 32 = .ok (.aload_n 0, 1) := by decide +kernel
theorem dX2_keep_33 : decode cX2_keep 33 = .ok (.getfield 11, 3) := by decide +kernel
theorem dX2_keep_36 : decode cX2_keep 36 = .ok (.aload_n 0, 1) := by decide +kernel
theorem dX2_keep_37 : decode cX2_keep 37 = .ok (.getfield 17, 3) := by decide +kernel
theorem dX2_keep_40 : decode cX2_keep 40 = .ok (.aload_n 0, 1) := by decide +kernel
theorem dX2_keep_41 : decode cX2_keep 41 = .ok (.getfield 21, 3) := by decide +kernel
theorem dX2_keep_44 : decode cX2_keep 44 = .ok (.iadd, 1) := by decide +kernel
theorem dX2_keep_45 : decode cX2_keep 45 = .ok (.bipush 8, 2) := by decide +kernel
theorem dX2_keep_47 : decode cX2_keep 47 = .ok (.irem, 1) := by decide +kernel
theorem dX2_keep_48 : decode cX2_keep 48 = .ok (.aaload, 1) := by decide +kernel
theorem dX2_keep_49 : decode cX2_keep 49 = .ok (.aload_n 1, 1) := by decide +kernel
theorem dX2_keep_50 : decode cX2_keep 50 = .ok (.invokevirtual 25, 3) := by decide +kernel
theorem dX2_keep_53 : decode cX2_keep 53 = .ok (.aload_n 0, 1) := by decide +kernel
theorem dX2_keep_54 : decode cX2_keep 54 = .ok (.dup, 1) := by decide +kernel
theorem dX2_keep_55 : decode cX2_keep 55 = .ok (.getfield 21, 3) := by decide +kernel
theorem dX2_keep_58 : decode cX2_keep 58 = .ok (.iconst 1, 1) := by decide +kernel
theorem dX2_keep_59 : decode cX2_keep 59 = .ok (.iadd, 1) := by decide +kernel
theorem dX2_keep_60 : decode cX2_keep 60 = .ok (.putfield 21, 3) := by decide +kernel
theorem dX2_keep_63 : decode cX2_keep 63 = .ok (.return_, 1) := by decide +kernel
theorem dX2_giveBack_0 : decode cX2_giveBack 0 = .ok (.aload_n 0, 1) := by decide +kernel
theorem dX2_giveBack_1 : decode cX2_giveBack 1 = .ok (.dup, 1) := by decide +kernel
theorem dX2_giveBack_2 : decode cX2_giveBack 2 = .ok (.getfield 21, 3) := by decide +kernel
theorem dX2_giveBack_5 : decode cX2_giveBack 5 = .ok (.iconst 1, 1) := by decide +kernel
theorem dX2_giveBack_6 : decode cX2_giveBack 6 = .ok (.isub, 1) := by decide +kernel
theorem dX2_giveBack_7 : decode cX2_giveBack 7 = .ok (.putfield 21, 3) := by decide +kernel
theorem dX2_giveBack_10 : decode cX2_giveBack 10 = .ok (.aload_n 1, 1) := by decide +kernel
theorem dX2_giveBack_11 : decode cX2_giveBack 11 = .ok (.aload_n 0, 1) := by decide +kernel
theorem dX2_giveBack_12 : decode cX2_giveBack 12 = .ok (.getfield 11, 3) := by decide +kernel
theorem dX2_giveBack_15 : decode cX2_giveBack 15 = .ok (.aload_n 0, 1) := by decide +kernel
theorem dX2_giveBack_16 : decode cX2_giveBack 16 = .ok (.getfield 17, 3) := by decide +kernel
theorem dX2_giveBack_19 : decode cX2_giveBack 19 = .ok (.aload_n 0, 1) := by decide +kernel
theorem dX2_giveBack_20 : decode cX2_giveBack 20 = .ok (.getfield 21, 3) := by decide +kernel
theorem dX2_giveBack_23 : decode cX2_giveBack 23 = .ok (.iadd, 1) := by decide +kernel
theorem dX2_giveBack_24 : decode cX2_giveBack 24 = .ok (.bipush 8, 2) := by decide +kernel
theorem dX2_giveBack_26 : decode cX2_giveBack 26 = .ok (.irem, 1) := by decide +kernel
theorem dX2_giveBack_27 : decode cX2_giveBack 27 = .ok (.aaload, 1) := by decide +kernel
theorem dX2_giveBack_28 : decode cX2_giveBack 28 = .ok (.invokevirtual 25, 3) := by decide +kernel
theorem dX2_giveBack_31 : decode cX2_giveBack 31 = .ok (.return_, 1) := by decide +kernel
theorem dX3_init_0 : decode cX3_init 0 = .ok (.aload_n 0, 1) := by decide +kernel
theorem dX3_init_1 : decode cX3_init 1 = .ok (.invokespecial 3, 3) := by decide +kernel
theorem dX3_init_4 : decode cX3_init 4 = .ok (.aload_n 0, 1) := by decide +kernel
theorem dX3_init_5 : decode cX3_init 5 = .ok (.bipush 16, 2) := by decide +kernel
theorem dX3_init_7 : decode cX3_init 7 = .ok (.newarray .int, 2) := by decide +kernel
theorem dX3_init_9 : decode cX3_init 9 = .ok (.putfield 9, 3) := by decide +kernel
theorem dX3_init_12 : decode cX3_init 12 = .ok (.aload_n 0, 1) := by decide +kernel
theorem dX3_init_13 : decode cX3_init 13 = .ok (.bipush 16, 2) := by decide +kernel
theorem dX3_init_15 : decode cX3_init 15 = .ok (.newarray .int, 2) := by decide +kernel
theorem dX3_init_17 : decode cX3_init 17 = .ok (.putfield 15, 3) := by decide +kernel
theorem dX3_init_20 : decode cX3_init 20 = .ok (.aload_n 0, 1) := by decide +kernel
theorem dX3_init_21 : decode cX3_init 21 = .ok (.iconst 0, 1) := by decide +kernel
theorem dX3_init_22 : decode cX3_init 22 = .ok (.putfield 18, 3) := by decide +kernel
theorem dX3_init_25 : decode cX3_init 25 = .ok (.aload_n 0, 1) := by decide +kernel
theorem dX3_init_26 : decode cX3_init 26 = .ok (.iconst 0, 1) := by decide +kernel
theorem dX3_init_27 : decode cX3_init 27 = .ok (.putfield 22, 3) := by decide +kernel
theorem dX3_init_30 : decode cX3_init 30 = .ok (.aload_n 0, 1) := by decide +kernel
theorem dX3_init_31 : decode cX3_init 31 = .ok (.iconst 0, 1) := by decide +kernel
theorem dX3_init_32 : decode cX3_init 32 = .ok (.putfield 25, 3) := by decide +kernel
theorem dX3_init_35 : decode cX3_init 35 = .ok (.return_, 1) := by decide +kernel
theorem dX3_run_0 : decode cX3_run 0 = .ok (.aload_n 0, 1) := by decide +kernel
theorem dX3_run_1 : decode cX3_run 1 = .ok (.iconst 0, 1) := by decide +kernel
theorem dX3_run_2 : decode cX3_run 2 = .ok (.putfield 22, 3) := by decide +kernel
theorem dX3_run_5 : decode cX3_run 5 = .ok (.aload_n 0, 1) := by decide +kernel
theorem dX3_run_6 : decode cX3_run 6 = .ok (.iconst 0, 1) := by decide +kernel
theorem dX3_run_7 : decode cX3_run 7 = .ok (.putfield 25, 3) := by decide +kernel
theorem dX3_run_10 : decode cX3_run 10 = .ok (.aload_n 0, 1) := by decide +kernel
theorem dX3_run_11 : decode cX3_run 11 = .ok (.iconst 0, 1) := by decide +kernel
theorem dX3_run_12 : decode cX3_run 12 = .ok (.putfield 18, 3) := by decide +kernel
theorem dX3_run_15 : decode cX3_run 15 = .ok (.iconst 0, 1) := by decide +kernel
theorem dX3_run_16 : decode cX3_run 16 = .ok (.istore_n 2, 1) := by decide +kernel
theorem dX3_run_17 : decode cX3_run 17 = .ok (.iload_n 2, 1) := by decide +kernel
theorem dX3_run_18 : decode cX3_run 18 = .ok (.aload_n 1, 1) := by decide +kernel
theorem dX3_run_19 : decode cX3_run 19 = .ok (.getfield 28, 3) := by decide +kernel
theorem dX3_run_22 : decode cX3_run 22 = .ok (.if_icmp .ge 36, 3) := by decide +kernel
theorem dX3_run_25 : decode cX3_run 25 = .ok (.aload_n 0, 1) := by decide +kernel
theorem dX3_run_26 : decode cX3_run 26 = .ok (.aload_n 1, 1) := by decide +kernel
theorem dX3_run_27 : decode cX3_run 27 = .ok (.iload_n 2, 1) := by decide +kernel
theorem dX3_run_28 : decode cX3_run 28 = .ok (.invokevirtual 33, 3) := by decide +kernel
theorem dX3_run_31 : decode cX3_run 31 = .ok (.aload_n 0, 1) := by decide +kernel
theorem dX3_run_32 : decode cX3_run 32 = .ok (.getfield 9, 3) := by decide +kernel
theorem dX3_run_35 : decode cX3_run 35 = .ok (.iload_n 2, 1) := by decide +kernel
theorem dX3_run_36 : decode cX3_run 36 = .ok (.iaload, 1) := by decide +kernel
theorem dX3_run_37 : decode cX3_run 37 = .ok (.ifCond .le 15, 3) := by decide +kernel
theorem dX3_run_40 : decode cX3_run 40 = .ok (.aload_n 0, 1) := by decide +kernel
theorem dX3_run_41 : decode cX3_run 41 = .ok (.dup, 1) := by decide +kernel
theorem dX3_run_42 : decode cX3_run 42 = .ok (.getfield 18, 3) := by decide +kernel
theorem dX3_run_45 : decode cX3_run 45 = .ok (.iconst 1, 1) := by decide +kernel
theorem dX3_run_46 : decode cX3_run 46 = .ok (.iload_n 2, 1) := by decide +kernel
theorem dX3_run_47 : decode cX3_run 47 = .ok (.ishl, 1) := by decide +kernel
theorem dX3_run_48 : decode cX3_run 48 = .ok (.ior, 1) := by decide +kernel
theorem dX3_run_49 : decode cX3_run 49 = .ok (.putfield 18, 3) := by decide +kernel
theorem dX3_run_52 : decode cX3_run 52 = .ok (.iinc 2 1, 3) := by decide +kernel
theorem dX3_run_55 : decode cX3_run 55 = .ok (.goto (-38), 3) := by decide +kernel
theorem dX3_run_58 : decode cX3_run 58 = .ok (.iconst 0, 1) := by decide +kernel
theorem dX3_run_59 : decode cX3_run 59 = .ok (.istore_n 2, 1) := by decide +kernel
theorem dX3_run_60 : decode cX3_run 60 = .ok (.iload_n 2, 1) := by decide +kernel
theorem dX3_run_61 : decode cX3_run 61 = .ok (.sipush 1000, 3) := by decide +kernel
theorem dX3_run_64 : decode cX3_run 64 = .ok (.if_icmp .ge 35, 3) := by decide +kernel
theorem dX3_run_67 : decode cX3_run 67 = .ok (.aload_n 0, 1) := by decide +kernel
theorem dX3_run_68 : decode cX3_run 68 = .ok (.getfield 18, 3) := by decide +kernel
theorem dX3_run_71 : decode cX3_run 71 = .ok (.ifCond .eq 28, 3) := by decide +kernel
theorem dX3_run_74 : decode cX3_run 74 = .ok (.aload_n 0, 1) := by decide +kernel
theorem dX3_run_75 : decode cX3_run 75 = .ok (.invokevirtual 37, 3) := by decide +kernel
theorem dX3_run_78 : decode cX3_run 78 = .ok (.istore_n 3, 1) := by decide +kernel
theorem dX3_run_79 : decode cX3_run 79 = .ok (.iload_n 3, 1) := by decide +kernel
theorem dX3_run_80 : decode cX3_run 80 = .ok (.iconst (-1), 1) := by decide +kernel
theorem dX3_run_81 : decode cX3_run 81 = .ok (.if_icmp .ne 6, 3) := by decide +kernel
theorem dX3_run_84 : decode cX3_run 84 = .ok (.goto 15, 3) := by decide +kernel
theorem dX3_run_87 : decode cX3_run 87 = .ok (.aload_n 0, 1) := by decide +kernel
theorem dX3_run_88 : decode cX3_run 88 = .ok (.aload_n 1, 1) := by decide +kernel
theorem dX3_run_89 : decode cX3_run 89 = .ok (.iload_n 3, 1) := by decide +kernel
theorem dX3_run_90 : decode cX3_run 90 = .ok (.invokevirtual 41, 3) := by decide +kernel
theorem dX3_run_93 : decode cX3_run 93 = .ok (.iinc 2 1, 3) := by decide +kernel
theorem dX3_run_96 : decode cX3_run 96 = .ok (.goto (-36), 3) := by decide +kernel
theorem dX3_run_99 : decode cX3_run 99 = .ok (.return_, 1) := by decide +kernel
theorem dX3_ask_0 : decode cX3_ask 0 = .ok (.aload_n 0, 1) := by decide +kernel
theorem dX3_ask_1 : decode cX3_ask 1 = .ok (.getfield 9, 3) := by decide +kernel
theorem dX3_ask_4 : decode cX3_ask 4 = .ok (.iload_n 2, 1) := by decide +kernel
theorem dX3_ask_5 : decode cX3_ask 5 = .ok (.aload_n 1, 1) := by decide +kernel
theorem dX3_ask_6 : decode cX3_ask 6 = .ok (.iload_n 2, 1) := by decide +kernel
theorem dX3_ask_7 : decode cX3_ask 7 = .ok (.aload_n 0, 1) := by decide +kernel
theorem dX3_ask_8 : decode cX3_ask 8 = .ok (.getfield 22, 3) := by decide +kernel
theorem dX3_ask_11 : decode cX3_ask 11 = .ok (.invokevirtual 44, 3) := by decide +kernel
theorem dX3_ask_14 : decode cX3_ask 14 = .ok (.iastore, 1) := by decide +kernel
theorem dX3_ask_15 : decode cX3_ask 15 = .ok (.aload_n 0, 1) := by decide +kernel
theorem dX3_ask_16 : decode cX3_ask 16 = .ok (.getfield 15, 3) := by decide +kernel
theorem dX3_ask_19 : decode cX3_ask 19 = .ok (.iload_n 2, 1) := by decide +kernel
theorem dX3_ask_20 : decode cX3_ask 20 = .ok (.aload_n 1, 1) := by decide +kernel
theorem dX3_ask_21 : decode cX3_ask 21 = .ok (.iload_n 2, 1) := by decide +kernel
theorem dX3_ask_22 : decode cX3_ask 22 = .ok (.aload_n 0, 1) := by decide +kernel
theorem dX3_ask_23 : decode cX3_ask 23 = .ok (.getfield 22, 3) := by decide +kernel
theorem dX3_ask_26 : decode cX3_ask 26 = .ok (.invokevirtual 48, 3) := by decide +kernel
theorem dX3_ask_29 : decode cX3_ask 29 = .ok (.iastore, 1) := by decide +kernel
theorem dX3_ask_30 : decode cX3_ask 30 = .ok (.aload_n 0, 1) := by decide +kernel
theorem dX3_ask_31 : decode cX3_ask 31 = .ok (.dup, 1) := by decide +kernel
theorem dX3_ask_32 : decode cX3_ask 32 = .ok (.getfield 25, 3) := by decide +kernel
theorem dX3_ask_35 : decode cX3_ask 35 = .ok (.iconst 1, 1) := by decide +kernel
theorem dX3_ask_36 : decode cX3_ask 36 = .ok (.iadd, 1) := by decide +kernel
theorem dX3_ask_37 : decode cX3_ask 37 = .ok (.putfield 25, 3) := by decide +kernel
theorem dX3_ask_40 : decode cX3_ask 40 = .ok (.return_, 1) := by decide +kernel
theorem dX3_foremost_0 : decode cX3_foremost 0 = .ok (.iconst (-1), 1) := by decide +kernel
theorem dX3_foremost_1 : decode cX3_foremost 1 = .ok (.istore_n 1, 1) := by decide +kernel
theorem dX3_foremost_2 : decode cX3_foremost 2 = .ok (.iconst 0, 1) := by decide +kernel
theorem dX3_foremost_3 : decode cX3_foremost 3 = .ok (.istore_n 2, 1) := by decide +kernel
theorem dX3_foremost_4 : decode cX3_foremost 4 = .ok (.iconst 1, 1) := by decide +kernel
theorem dX3_foremost_5 : decode cX3_foremost 5 = .ok (.istore_n 3, 1) := by decide +kernel
theorem dX3_foremost_6 : decode cX3_foremost 6 = .ok (.iconst 0, 1) := by decide +kernel
theorem dX3_foremost_7 : decode cX3_foremost 7 = .ok (.istore 4, 2) := by decide +kernel
theorem dX3_foremost_9 : decode cX3_foremost 9 = .ok (.iload 4, 2) := by decide +kernel
theorem dX3_foremost_11 : decode cX3_foremost 11 = .ok (.bipush 16, 2) := by decide +kernel
theorem dX3_foremost_13 : decode cX3_foremost 13 = .ok (.if_icmp .ge 62, 3) := by decide +kernel
theorem dX3_foremost_16 : decode cX3_foremost 16 = .ok (.iload 4, 2) := by decide +kernel
theorem dX3_foremost_18 : decode cX3_foremost 18 = .ok (.aload_n 0, 1) := by decide +kernel
theorem dX3_foremost_19 : decode cX3_foremost 19 = .ok (.getfield 18, 3) := by decide +kernel
theorem dX3_foremost_22 : decode cX3_foremost 22 = .ok (.invokestatic 51, 3) := by decide +kernel
theorem dX3_foremost_25 : decode cX3_foremost 25 = .ok (.ifCond .eq 44, 3) := by decide +kernel
theorem dX3_foremost_28 : decode cX3_foremost 28 = .ok (.aload_n 0, 1) := by decide +kernel
theorem dX3_foremost_29 : decode cX3_foremost 29 = .ok (.getfield 9, 3) := by decide +kernel
theorem dX3_foremost_32 : decode cX3_foremost 32 = .ok (.iload 4, 2) := by decide +kernel
theorem dX3_foremost_34 : decode cX3_foremost 34 = .ok (.iaload, 1) := by decide +kernel
theorem dX3_foremost_35 : decode cX3_foremost 35 = .ok (.aload_n 0, 1) := by decide +kernel
theorem dX3_foremost_36 : decode cX3_foremost 36 = .ok (.getfield 15, 3) := by decide +kernel
theorem dX3_foremost_39 : decode cX3_foremost 39 = .ok (.iload 4, 2) := by decide +kernel
theorem dX3_foremost_41 : decode cX3_foremost 41 = .ok (.iaload, 1) := by decide +kernel
theorem dX3_foremost_42 : decode cX3_foremost 42 = .ok (.iload_n 2, 1) := by decide +kernel
theorem dX3_foremost_43 : decode cX3_foremost 43 = .ok (.iload_n 3, 1) := by decide +kernel
theorem dX3_foremost_44 : decode cX3_foremost 44 = .ok (.invokestatic 55, 3) := by decide +kernel
theorem dX3_foremost_47 : decode cX3_foremost 47 = .ok (.ifCond .eq 22, 3) := by decide +kernel
theorem dX3_foremost_50 : decode cX3_foremost 50 = .ok (.iload 4, 2) := by decide +kernel
theorem dX3_foremost_52 : decode cX3_foremost 52 = .ok (.istore_n 1, 1) := by decide +kernel
theorem dX3_foremost_53 : decode cX3_foremost 53 = .ok (.aload_n 0, 1) := by decide +kernel
theorem dX3_foremost_54 : decode cX3_foremost 54 = .ok (.getfield 9, 3) := by decide +kernel
theorem dX3_foremost_57 : decode cX3_foremost 57 = .ok (.iload 4, 2) := by decide +kernel
theorem dX3_foremost_59 : decode cX3_foremost 59 = .ok (.iaload, 1) := by decide +kernel
theorem dX3_foremost_60 : decode cX3_foremost 60 = .ok (.istore_n 2, 1) := by decide +kernel
theorem dX3_foremost_61 : decode cX3_foremost 61 = .ok (.aload_n 0, 1) := by decide +kernel
theorem dX3_foremost_62 : decode cX3_foremost 62 = .ok (.getfield 15, 3) := by decide +kernel
theorem dX3_foremost_65 : decode cX3_foremost 65 = .ok (.iload 4, 2) := by decide +kernel
theorem dX3_foremost_67 : decode cX3_foremost 67 = .ok (.iaload, 1) := by decide +kernel
theorem dX3_foremost_68 : decode cX3_foremost 68 = .ok (.istore_n 3, 1) := by decide +kernel
theorem dX3_foremost_69 : decode cX3_foremost 69 = .ok (.iinc 4 1, 3) := by decide +kernel
theorem dX3_foremost_72 : decode cX3_foremost 72 = .ok (.goto (-63), 3) := by decide +kernel
theorem dX3_foremost_75 : decode cX3_foremost 75 = .ok (.iload_n 1, 1) := by decide +kernel
theorem dX3_foremost_76 : decode cX3_foremost 76 = .ok (.ireturn, 1) := by decide +kernel
theorem dX3_lookAt_0 : decode cX3_lookAt 0 = .ok (.iconst 1, 1) := by decide +kernel
theorem dX3_lookAt_1 : decode cX3_lookAt 1 = .ok (.iload_n 2, 1) := by decide +kernel
theorem dX3_lookAt_2 : decode cX3_lookAt 2 = .ok (.ishl, 1) := by decide +kernel
theorem dX3_lookAt_3 : decode cX3_lookAt 3 = .ok (.istore_n 3, 1) := by decide +kernel
theorem dX3_lookAt_4 : decode cX3_lookAt 4 = .ok (.aload_n 1, 1) := by decide +kernel
theorem dX3_lookAt_5 : decode cX3_lookAt 5 = .ok (.iload_n 2, 1) := by decide +kernel
theorem dX3_lookAt_6 : decode cX3_lookAt 6 = .ok (.aload_n 0, 1) := by decide +kernel
theorem dX3_lookAt_7 : decode cX3_lookAt 7 = .ok (.getfield 22, 3) := by decide +kernel
theorem dX3_lookAt_10 : decode cX3_lookAt 10 = .ok (.invokevirtual 59, 3) := by decide +kernel
theorem dX3_lookAt_13 : decode cX3_lookAt 13 = .ok (.ifCond .ne 16, 3) := by decide +kernel
theorem dX3_lookAt_16 : decode cX3_lookAt 16 = .ok (.aload_n 0, 1) := by decide +kernel
theorem dX3_lookAt_17 : decode cX3_lookAt 17 = .ok (.dup, 1) := by decide +kernel
theorem dX3_lookAt_18 : decode cX3_lookAt 18 = .ok (.getfield 18, 3) := by decide +kernel
theorem dX3_lookAt_21 : decode cX3_lookAt 21 = .ok (.iload_n 3, 1) := by decide +kernel
theorem dX3_lookAt_22 : decode cX3_lookAt 22 = .ok (.iconst (-1), 1) := by decide +kernel
theorem dX3_lookAt_23 : decode cX3_lookAt 23 = .ok (.ixor, 1) := by decide +kernel
theorem dX3_lookAt_24 : decode cX3_lookAt 24 = .ok (.iand, 1) := by decide +kernel
theorem dX3_lookAt_25 : decode cX3_lookAt 25 = .ok (.putfield 18, 3) := by decide +kernel
theorem dX3_lookAt_28 : decode cX3_lookAt 28 = .ok (.return_, 1) := by decide +kernel
theorem dX3_lookAt_29 : decode cX3_lookAt 29 = .ok (.aload_n 0, 1) := by decide +kernel
theorem dX3_lookAt_30 : decode cX3_lookAt 30 = .ok (.aload_n 1, 1) := by decide +kernel
theorem dX3_lookAt_31 : decode cX3_lookAt 31 = .ok (.iload_n 2, 1) := by decide +kernel
theorem dX3_lookAt_32 : decode cX3_lookAt 32 = .ok (.invokevirtual 33, 3) := by decide +kernel
theorem dX3_lookAt_35 : decode cX3_lookAt 35 = .ok (.aload_n 0, 1) := by decide +kernel
theorem dX3_lookAt_36 : decode cX3_lookAt 36 = .ok (.getfield 9, 3) := by decide +kernel
theorem dX3_lookAt_39 : decode cX3_lookAt 39 = .ok (.iload_n 2, 1) := by decide +kernel
theorem dX3_lookAt_40 : decode cX3_lookAt 40 = .ok (.iaload, 1) := by decide +kernel
theorem dX3_lookAt_41 : decode cX3_lookAt 41 = .ok (.ifCond .ne 18, 3) := by decide +kernel
theorem dX3_lookAt_44 : decode cX3_lookAt 44 = .ok (.aload_n 0, 1) := by decide +kernel
theorem dX3_lookAt_45 : decode cX3_lookAt 45 = .ok (.dup, 1) := by decide +kernel
theorem dX3_lookAt_46 : decode cX3_lookAt 46 = .ok (.getfield 18, 3) := by decide +kernel
theorem dX3_lookAt_49 : decode cX3_lookAt 49 = .ok (.iload_n 3, 1) := by decide +kernel
theorem dX3_lookAt_50 : decode cX3_lookAt 50 = .ok (.iconst (-1), 1) := by decide +kernel
theorem dX3_lookAt_51 : decode cX3_lookAt 51 = .ok (.ixor, 1) := by decide +kernel
theorem dX3_lookAt_52 : decode cX3_lookAt 52 = .ok (.iand, 1) := by decide +kernel
theorem dX3_lookAt_53 : decode cX3_lookAt 53 = .ok (.putfield 18, 3) := by decide +kernel
theorem dX3_lookAt_56 : decode cX3_lookAt 56 = .ok (.goto 38, 3) := by decide +kernel
theorem dX3_lookAt_59 : decode cX3_lookAt 59 = .ok (.aload_n 0, 1) := by decide +kernel
theorem dX3_lookAt_60 : decode cX3_lookAt 60 = .ok (.invokevirtual 37, 3) := by decide +kernel
theorem dX3_lookAt_63 : decode cX3_lookAt 63 = .ok (.iload_n 2, 1) := by decide +kernel
theorem dX3_lookAt_64 : decode cX3_lookAt 64 = .ok (.if_icmp .ne 30, 3) := by decide +kernel
theorem dX3_lookAt_67 : decode cX3_lookAt 67 = .ok (.aload_n 0, 1) := by decide +kernel
theorem dX3_lookAt_68 : decode cX3_lookAt 68 = .ok (.dup, 1) := by decide +kernel
theorem dX3_lookAt_69 : decode cX3_lookAt 69 = .ok (.getfield 22, 3) := by decide +kernel
theorem dX3_lookAt_72 : decode cX3_lookAt 72 = .ok (.aload_n 1, 1) := by decide +kernel
theorem dX3_lookAt_73 : decode cX3_lookAt 73 = .ok (.getfield 62, 3) := by decide +kernel
theorem dX3_lookAt_76 : decode cX3_lookAt 76 = .ok (.iload_n 2, 1) := by decide +kernel
theorem dX3_lookAt_77 : decode cX3_lookAt 77 = .ok (.iaload, 1) := by decide +kernel
theorem dX3_lookAt_78 : decode cX3_lookAt 78 = .ok (.ior, 1) := by decide +kernel
theorem dX3_lookAt_79 : decode cX3_lookAt 79 = .ok (.putfield 22, 3) := by decide +kernel
theorem dX3_lookAt_82 : decode cX3_lookAt 82 = .ok (.aload_n 0, 1) := by decide +kernel
theorem dX3_lookAt_83 : decode cX3_lookAt 83 = .ok (.dup, 1) := by decide +kernel
theorem dX3_lookAt_84 : decode cX3_lookAt 84 = .ok (.getfield 18, 3) := by decide +kernel
theorem dX3_lookAt_87 : decode cX3_lookAt 87 = .ok (.iload_n 3, 1) := by decide +kernel
theorem dX3_lookAt_88 : decode cX3_lookAt 88 = .ok (.iconst (-1), 1) := by decide +kernel
theorem dX3_lookAt_89 : decode cX3_lookAt 89 = .ok (.ixor, 1) := by decide +kernel
theorem dX3_lookAt_90 : decode cX3_lookAt 90 = .ok (.iand, 1) := by decide +kernel
theorem dX3_lookAt_91 : decode cX3_lookAt 91 = .ok (.putfield 18, 3) := by decide +kernel
theorem dX3_lookAt_94 : decode cX3_lookAt 94 = .ok (.return_, 1) := by decide +kernel
theorem dX4_init_0 : decode cX4_init 0 = .ok (.aload_n 0, 1) := by decide +kernel
theorem dX4_init_1 : decode cX4_init 1 = .ok (.invokespecial 3, 3) := by decide +kernel
theorem dX4_init_4 : decode cX4_init 4 = .ok (.aload_n 0, 1) := by decide +kernel
theorem dX4_init_5 : decode cX4_init 5 = .ok (.new 9, 3) := by decide +kernel
theorem dX4_init_8 : decode cX4_init 8 = .ok (.dup, 1) := by decide +kernel
theorem dX4_init_9 : decode cX4_init 9 = .ok (.invokespecial 11, 3) := by decide +kernel
theorem dX4_init_12 : decode cX4_init 12 = .ok (.putfield 12, 3) := by decide +kernel
theorem dX4_init_15 : decode cX4_init 15 = .ok (.aload_n 0, 1) := by decide +kernel
theorem dX4_init_16 : decode cX4_init 16 = .ok (.iconst 0, 1) := by decide +kernel
theorem dX4_init_17 : decode cX4_init 17 = .ok (.putfield 18, 3) := by decide +kernel
theorem dX4_init_20 : decode cX4_init 20 = .ok (.aload_n 0, 1) := by decide +kernel
theorem dX4_init_21 : decode cX4_init 21 = .ok (.iconst (-1), 1) := by decide +kernel
theorem dX4_init_22 : decode cX4_init 22 = .ok (.putfield 22, 3) := by decide +kernel
theorem dX4_init_25 : decode cX4_init 25 = .ok (.aload_n 0, 1) := by decide +kernel
theorem dX4_init_26 : decode cX4_init 26 = .ok (.iconst 0, 1) := by decide +kernel
theorem dX4_init_27 : decode cX4_init 27 = .ok (.putfield 25, 3) := by decide +kernel
theorem dX4_init_30 : decode cX4_init 30 = .ok (.aload_n 0, 1) := by decide +kernel
theorem dX4_init_31 : decode cX4_init 31 = .ok (.iconst 0, 1) := by decide +kernel
theorem dX4_init_32 : decode cX4_init 32 = .ok (.putfield 28, 3) := by decide +kernel
theorem dX4_init_35 : decode cX4_init 35 = .ok (.aload_n 0, 1) := by decide +kernel
theorem dX4_init_36 : decode cX4_init 36 = .ok (.iconst 0, 1) := by decide +kernel
theorem dX4_init_37 : decode cX4_init 37 = .ok (.putfield 31, 3) := by decide +kernel
theorem dX4_init_40 : decode cX4_init 40 = .ok (.aload_n 0, 1) := by decide +kernel
theorem dX4_init_41 : decode cX4_init 41 = .ok (.lconst 0, 1) := by decide +kernel
theorem dX4_init_42 : decode cX4_init 42 = .ok (.putfield 34, 3) := by decide +kernel
theorem dX4_init_45 : decode cX4_init 45 = .ok (.return_, 1) := by decide +kernel
theorem dX4_read_0 : decode cX4_read 0 = .ok (.aload_n 0, 1) := by decide +kernel
theorem dX4_read_1 : decode cX4_read 1 = .ok (.getfield 12, 3) := by decide +kernel
theorem dX4_read_4 : decode cX4_read 4 = .ok (.invokevirtual 38, 3) := by decide +kernel
theorem dX4_read_7 : decode cX4_read 7 = .ok (.aload_n 0, 1) := by decide +kernel
theorem dX4_read_8 : decode cX4_read 8 = .ok (.iconst 0, 1) := by decide +kernel
theorem dX4_read_9 : decode cX4_read 9 = .ok (.putfield 18, 3) := by decide +kernel
theorem dX4_read_12 : decode cX4_read 12 = .ok (.aload_n 0, 1) := by decide +kernel
theorem dX4_read_13 : decode cX4_read 13 = .ok (.iconst (-1), 1) := by decide +kernel
theorem dX4_read_14 : decode cX4_read 14 = .ok (.putfield 22, 3) := by decide +kernel
theorem dX4_read_17 : decode cX4_read 17 = .ok (.aload_n 0, 1) := by decide +kernel
theorem dX4_read_18 : decode cX4_read 18 = .ok (.iconst 0, 1) := by decide +kernel
theorem dX4_read_19 : decode cX4_read 19 = .ok (.putfield 25, 3) := by decide +kernel
theorem dX4_read_22 : decode cX4_read 22 = .ok (.aload_n 0, 1) := by decide +kernel
theorem dX4_read_23 : decode cX4_read 23 = .ok (.iconst 0, 1) := by decide +kernel
theorem dX4_read_24 : decode cX4_read 24 = .ok (.putfield 28, 3) := by decide +kernel
theorem dX4_read_27 : decode cX4_read 27 = .ok (.iconst 0, 1) := by decide +kernel
theorem dX4_read_28 : decode cX4_read 28 = .ok (.istore_n 3, 1) := by decide +kernel
theorem dX4_read_29 : decode cX4_read 29 = .ok (.iload_n 3, 1) := by decide +kernel
theorem dX4_read_30 : decode cX4_read 30 = .ok (.iload_n 2, 1) := by decide +kernel
theorem dX4_read_31 : decode cX4_read 31 = .ok (.if_icmp .ge 61, 3) := by decide +kernel
theorem dX4_read_34 : decode cX4_read 34 = .ok (.iload_n 3, 1) := by decide +kernel
theorem dX4_read_35 : decode cX4_read 35 = .ok (.aload_n 1, 1) := by decide +kernel
theorem dX4_read_36 : decode cX4_read 36 = .ok (.arraylength, 1) := by decide +kernel
theorem dX4_read_37 : decode cX4_read 37 = .ok (.if_icmp .ge 55, 3) := by decide +kernel
theorem dX4_read_40 : decode cX4_read 40 = .ok (.aload_n 0, 1) := by decide +kernel
theorem dX4_read_41 : decode cX4_read 41 = .ok (.getfield 18, 3) := by decide +kernel
theorem dX4_read_44 : decode cX4_read 44 = .ok (.ifCond .ne 48, 3) := by decide +kernel
theorem dX4_read_47 : decode cX4_read 47 = .ok (.aload_n 1, 1) := by decide +kernel
theorem dX4_read_48 : decode cX4_read 48 = .ok (.iload_n 3, 1) := by decide +kernel
theorem dX4_read_49 : decode cX4_read 49 = .ok (.baload, 1) := by decide +kernel
theorem dX4_read_50 : decode cX4_read 50 = .ok (.bipush 97, 2) := by decide +kernel
theorem dX4_read_52 : decode cX4_read 52 = .ok (.if_icmp .lt 22, 3) := by decide +kernel
theorem dX4_read_55 : decode cX4_read 55 = .ok (.aload_n 1, 1) := by decide +kernel
theorem dX4_read_56 : decode cX4_read 56 = .ok (.iload_n 3, 1) := by decide +kernel
theorem dX4_read_57 : decode cX4_read 57 = .ok (.baload, 1) := by decide +kernel
theorem dX4_read_58 : decode cX4_read 58 = .ok (.bipush 122, 2) := by decide +kernel
theorem dX4_read_60 : decode cX4_read 60 = .ok (.if_icmp .gt 14, 3) := by decide +kernel
theorem dX4_read_63 : decode cX4_read 63 = .ok (.aload_n 0, 1) := by decide +kernel
theorem dX4_read_64 : decode cX4_read 64 = .ok (.aload_n 1, 1) := by decide +kernel
theorem dX4_read_65 : decode cX4_read 65 = .ok (.iload_n 3, 1) := by decide +kernel
theorem dX4_read_66 : decode cX4_read 66 = .ok (.baload, 1) := by decide +kernel
theorem dX4_read_67 : decode cX4_read 67 = .ok (.iload_n 3, 1) := by decide +kernel
theorem dX4_read_68 : decode cX4_read 68 = .ok (.invokevirtual 41, 3) := by decide +kernel
theorem dX4_read_71 : decode cX4_read 71 = .ok (.goto 15, 3) := by decide +kernel
theorem dX4_read_74 : decode cX4_read 74 = .ok (.aload_n 0, 1) := by decide +kernel
theorem dX4_read_75 : decode cX4_read 75 = .ok (.invokevirtual 45, 3) := by decide +kernel
theorem dX4_read_78 : decode cX4_read 78 = .ok (.aload_n 0, 1) := by decide +kernel
theorem dX4_read_79 : decode cX4_read 79 = .ok (.aload_n 1, 1) := by decide +kernel
theorem dX4_read_80 : decode cX4_read 80 = .ok (.iload_n 3, 1) := by decide +kernel
theorem dX4_read_81 : decode cX4_read 81 = .ok (.baload, 1) := by decide +kernel
theorem dX4_read_82 : decode cX4_read 82 = .ok (.iload_n 3, 1) := by decide +kernel
theorem dX4_read_83 : decode cX4_read 83 = .ok (.invokevirtual 48, 3) := by decide +kernel
theorem dX4_read_86 : decode cX4_read 86 = .ok (.iinc 3 1, 3) := by decide +kernel
theorem dX4_read_89 : decode cX4_read 89 = .ok (.goto (-60), 3) := by decide +kernel
theorem dX4_read_92 : decode cX4_read 92 = .ok (.aload_n 0, 1) := by decide +kernel
theorem dX4_read_93 : decode cX4_read 93 = .ok (.invokevirtual 45, 3) := by decide +kernel
theorem dX4_read_96 : decode cX4_read 96 = .ok (.aload_n 0, 1) := by decide +kernel
theorem dX4_read_97 : decode cX4_read 97 = .ok (.getfield 25, 3) := by decide +kernel
theorem dX4_read_100 : decode cX4_read 100 = .ok (.ifCond .le 9, 3) := by decide +kernel
theorem dX4_read_103 : decode cX4_read 103 = .ok (.aload_n 0, 1) := by decide +kernel
theorem dX4_read_104 : decode cX4_read 104 = .ok (.iconst 1, 1) := by decide +kernel
theorem dX4_read_105 : decode cX4_read 105 = .ok (.iload_n 2, 1) := by decide +kernel
theorem dX4_read_106 : decode cX4_read 106 = .ok (.invokevirtual 51, 3) := by decide +kernel
theorem dX4_read_109 : decode cX4_read 109 = .ok (.aload_n 0, 1) := by decide +kernel
theorem dX4_read_110 : decode cX4_read 110 = .ok (.getfield 18, 3) := by decide +kernel
theorem dX4_read_113 : decode cX4_read 113 = .ok (.ireturn, 1) := by decide +kernel
theorem dX4_readLetter_0 : decode cX4_readLetter 0 = .ok (.aload_n 0, 1) := by decide +kernel
theorem dX4_readLetter_1 : decode cX4_readLetter 1 = .ok (.getfield 28, 3) := by decide +kernel
theorem dX4_readLetter_4 : decode cX4_readLetter 4 = .ok (.ifCond .ne 13, 3) := by decide +kernel
theorem dX4_readLetter_7 : decode cX4_readLetter 7 = .ok (.aload_n 0, 1) := by decide +kernel
theorem dX4_readLetter_8 : decode cX4_readLetter 8 = .ok (.iload_n 2, 1) := by decide +kernel
theorem dX4_readLetter_9 : decode cX4_readLetter 9 = .ok (.putfield 31, 3) := by decide +kernel
theorem dX4_readLetter_12 : decode cX4_readLetter 12 = .ok (.aload_n 0, 1) := by decide +kernel
theorem dX4_readLetter_13 : decode cX4_readLetter 13 = .ok (.lconst 0, 1) := by decide +kernel
theorem dX4_readLetter_14 : decode cX4_readLetter 14 = .ok (.putfield 34, 3) := by decide +kernel
theorem dX4_readLetter_17 : decode cX4_readLetter 17 = .ok (.aload_n 0, 1) := by decide +kernel
theorem dX4_readLetter_18 : decode cX4_readLetter 18 = .ok (.getfield 28, 3) := by decide +kernel
theorem dX4_readLetter_21 : decode cX4_readLetter 21 = .ok (.bipush 10, 2) := by decide +kernel
theorem dX4_readLetter_23 : decode cX4_readLetter 23 = .ok (.if_icmp .ge 19, 3) := by decide +kernel
theorem dX4_readLetter_26 : decode cX4_readLetter 26 = .ok (.aload_n 0, 1) := by decide +kernel
theorem dX4_readLetter_27 : decode cX4_readLetter 27 = .ok (.aload_n 0, 1) := by decide +kernel
theorem dX4_readLetter_28 : decode cX4_readLetter 28 = .ok (.getfield 34, 3) := by decide +kernel
theorem dX4_readLetter_31 : decode cX4_readLetter 31 = .ok (.aload_n 0, 1) := by decide +kernel
theorem dX4_readLetter_32 : decode cX4_readLetter 32 = .ok (.getfield 28, 3) := by decide +kernel
theorem dX4_readLetter_35 : decode cX4_readLetter 35 = .ok (.iload_n 1, 1) := by decide +kernel
theorem dX4_readLetter_36 : decode cX4_readLetter 36 = .ok (.invokestatic 54, 3) := by decide +kernel
theorem dX4_readLetter_39 : decode cX4_readLetter 39 = .ok (.putfield 34, 3) := by decide +kernel
theorem dX4_readLetter_42 : decode cX4_readLetter 42 = .ok (.aload_n 0, 1) := by decide +kernel
theorem dX4_readLetter_43 : decode cX4_readLetter 43 = .ok (.dup, 1) := by decide +kernel
theorem dX4_readLetter_44 : decode cX4_readLetter 44 = .ok (.getfield 28, 3) := by decide +kernel
theorem dX4_readLetter_47 : decode cX4_readLetter 47 = .ok (.iconst 1, 1) := by decide +kernel
theorem dX4_readLetter_48 : decode cX4_readLetter 48 = .ok (.iadd, 1) := by decide +kernel
theorem dX4_readLetter_49 : decode cX4_readLetter 49 = .ok (.putfield 28, 3) := by decide +kernel
theorem dX4_readLetter_52 : decode cX4_readLetter 52 = .ok (.return_, 1) := by decide +kernel
theorem dX4_readSign_0 : decode cX4_readSign 0 = .ok (.iload_n 1, 1) := by decide +kernel
theorem dX4_readSign_1 : decode cX4_readSign 1 = .ok (.bipush 46, 2) := by decide +kernel
theorem dX4_readSign_3 : decode cX4_readSign 3 = .ok (.if_icmp .ne 31, 3) := by decide +kernel
theorem dX4_readSign_6 : decode cX4_readSign 6 = .ok (.aload_n 0, 1) := by decide +kernel
theorem dX4_readSign_7 : decode cX4_readSign 7 = .ok (.getfield 25, 3) := by decide +kernel
theorem dX4_readSign_10 : decode cX4_readSign 10 = .ok (.ifCond .le 24, 3) := by decide +kernel
theorem dX4_readSign_13 : decode cX4_readSign 13 = .ok (.aload_n 0, 1) := by decide +kernel
theorem dX4_readSign_14 : decode cX4_readSign 14 = .ok (.getfield 12, 3) := by decide +kernel
theorem dX4_readSign_17 : decode cX4_readSign 17 = .ok (.dup, 1) := by decide +kernel
theorem dX4_readSign_18 : decode cX4_readSign 18 = .ok (.getfield 58, 3) := by decide +kernel
theorem dX4_readSign_21 : decode cX4_readSign 21 = .ok (.iconst 1, 1) := by decide +kernel
theorem dX4_readSign_22 : decode cX4_readSign 22 = .ok (.iadd, 1) := by decide +kernel
theorem dX4_readSign_23 : decode cX4_readSign 23 = .ok (.putfield 58, 3) := by decide +kernel
theorem dX4_readSign_26 : decode cX4_readSign 26 = .ok (.aload_n 0, 1) := by decide +kernel
theorem dX4_readSign_27 : decode cX4_readSign 27 = .ok (.iconst 0, 1) := by decide +kernel
theorem dX4_readSign_28 : decode cX4_readSign 28 = .ok (.putfield 25, 3) := by decide +kernel
theorem dX4_readSign_31 : decode cX4_readSign 31 = .ok (.goto 15, 3) := by decide +kernel
theorem dX4_readSign_34 : decode cX4_readSign 34 = .ok (.iload_n 1, 1) := by decide +kernel
theorem dX4_readSign_35 : decode cX4_readSign 35 = .ok (.bipush 32, 2) := by decide +kernel
theorem dX4_readSign_37 : decode cX4_readSign 37 = .ok (.if_icmp .eq 9, 3) := by decide +kernel
theorem dX4_readSign_40 : decode cX4_readSign 40 = .ok (.aload_n 0, 1) := by decide +kernel
theorem dX4_readSign_41 : decode cX4_readSign 41 = .ok (.iconst 1, 1) := by decide +kernel
theorem dX4_readSign_42 : decode cX4_readSign 42 = .ok (.iload_n 2, 1) := by decide +kernel
theorem dX4_readSign_43 : decode cX4_readSign 43 = .ok (.invokevirtual 51, 3) := by decide +kernel
theorem dX4_readSign_46 : decode cX4_readSign 46 = .ok (.return_, 1) := by decide +kernel
theorem dX4_endWord_0 : decode cX4_endWord 0 = .ok (.aload_n 0, 1) := by decide +kernel
theorem dX4_endWord_1 : decode cX4_endWord 1 = .ok (.getfield 28, 3) := by decide +kernel
theorem dX4_endWord_4 : decode cX4_endWord 4 = .ok (.ifCond .ne 4, 3) := by decide +kernel
theorem dX4_endWord_7 : decode cX4_endWord 7 = .ok (.return_, 1) := by decide +kernel
theorem dX4_endWord_8 : decode cX4_endWord 8 = .ok (.aload_n 0, 1) := by decide +kernel
theorem dX4_endWord_9 : decode cX4_endWord 9 = .ok (.getfield 28, 3) := by decide +kernel
theorem dX4_endWord_12 : decode cX4_endWord 12 = .ok (.bipush 10, 2) := by decide +kernel
theorem dX4_endWord_14 : decode cX4_endWord 14 = .ok (.if_icmp .le 15, 3) := by decide +kernel
theorem dX4_endWord_17 : decode cX4_endWord 17 = .ok (.aload_n 0, 1) := by decide +kernel
theorem dX4_endWord_18 : decode cX4_endWord 18 = .ok (.iconst 2, 1) := by decide +kernel
theorem dX4_endWord_19 : decode cX4_endWord 19 = .ok (.aload_n 0, 1) := by decide +kernel
theorem dX4_endWord_20 : decode cX4_endWord 20 = .ok (.getfield 31, 3) := by decide +kernel
theorem dX4_endWord_23 : decode cX4_endWord 23 = .ok (.invokevirtual 51, 3) := by decide +kernel
theorem dX4_endWord_26 : decode cX4_endWord 26 = .ok (.goto 40, 3) := by decide +kernel
theorem dX4_endWord_29 : decode cX4_endWord 29 = .ok (.aload_n 0, 1) := by decide +kernel
theorem dX4_endWord_30 : decode cX4_endWord 30 = .ok (.getfield 12, 3) := by decide +kernel
theorem dX4_endWord_33 : decode cX4_endWord 33 = .ok (.getfield 58, 3) := by decide +kernel
theorem dX4_endWord_36 : decode cX4_endWord 36 = .ok (.bipush 16, 2) := by decide +kernel
theorem dX4_endWord_38 : decode cX4_endWord 38 = .ok (.if_icmp .ge 12, 3) := by decide +kernel
theorem dX4_endWord_41 : decode cX4_endWord 41 = .ok (.aload_n 0, 1) := by decide +kernel
theorem dX4_endWord_42 : decode cX4_endWord 42 = .ok (.getfield 25, 3) := by decide +kernel
theorem dX4_endWord_45 : decode cX4_endWord 45 = .ok (.bipush 30, 2) := by decide +kernel
theorem dX4_endWord_47 : decode cX4_endWord 47 = .ok (.if_icmp .lt 15, 3) := by decide +kernel
theorem dX4_endWord_50 : decode cX4_endWord 50 = .ok (.aload_n 0, 1) := by decide +kernel
theorem dX4_endWord_51 : decode cX4_endWord 51 = .ok (.iconst 3, 1) := by decide +kernel
theorem dX4_endWord_52 : decode cX4_endWord 52 = .ok (.aload_n 0, 1) := by decide +kernel
theorem dX4_endWord_53 : decode cX4_endWord 53 = .ok (.getfield 31, 3) := by decide +kernel
theorem dX4_endWord_56 : decode cX4_endWord 56 = .ok (.invokevirtual 51, 3) := by decide +kernel
theorem dX4_endWord_59 : decode cX4_endWord 59 = .ok (.goto 7, 3) := by decide +kernel
theorem dX4_endWord_62 : decode cX4_endWord 62 = .ok (.aload_n 0, 1) := by decide +kernel
theorem dX4_endWord_63 : decode cX4_endWord 63 = .ok (.invokevirtual 61, 3) := by decide +kernel
theorem dX4_endWord_66 : decode cX4_endWord 66 = .ok (.aload_n 0, 1) := by decide +kernel
theorem dX4_endWord_67 : decode cX4_endWord 67 = .ok (.iconst 0, 1) := by decide +kernel
theorem dX4_endWord_68 : decode cX4_endWord 68 = .ok (.putfield 28, 3) := by decide +kernel
theorem dX4_endWord_71 : decode cX4_endWord 71 = .ok (.return_, 1) := by decide +kernel
theorem dX4_addWord_0 : decode cX4_addWord 0 = .ok (.aload_n 0, 1) := by decide +kernel
theorem dX4_addWord_1 : decode cX4_addWord 1 = .ok (.getfield 12, 3) := by decide +kernel
theorem dX4_addWord_4 : decode cX4_addWord 4 = .ok (.aload_n 0, 1) := by decide +kernel
theorem dX4_addWord_5 : decode cX4_addWord 5 = .ok (.getfield 34, 3) := by decide +kernel
theorem dX4_addWord_8 : decode cX4_addWord 8 = .ok (.invokevirtual 64, 3) := by decide +kernel
theorem dX4_addWord_11 : decode cX4_addWord 11 = .ok (.istore_n 1, 1) := by decide +kernel
theorem dX4_addWord_12 : decode cX4_addWord 12 = .ok (.iload_n 1, 1) := by decide +kernel
theorem dX4_addWord_13 : decode cX4_addWord 13 = .ok (.iconst (-1), 1) := by decide +kernel
theorem dX4_addWord_14 : decode cX4_addWord 14 = .ok (.if_icmp .ne 69, 3) := by decide +kernel
theorem dX4_addWord_17 : decode cX4_addWord 17 = .ok (.aload_n 0, 1) := by decide +kernel
theorem dX4_addWord_18 : decode cX4_addWord 18 = .ok (.getfield 12, 3) := by decide +kernel
theorem dX4_addWord_21 : decode cX4_addWord 21 = .ok (.getfield 68, 3) := by decide +kernel
theorem dX4_addWord_24 : decode cX4_addWord 24 = .ok (.bipush 48, 2) := by decide +kernel
theorem dX4_addWord_26 : decode cX4_addWord 26 = .ok (.if_icmp .lt 13, 3) := by decide +kernel
theorem dX4_addWord_29 : decode cX4_addWord 29 = .ok (.aload_n 0, 1) := by decide +kernel
theorem dX4_addWord_30 : decode cX4_addWord 30 = .ok (.iconst 3, 1) := by decide +kernel
theorem dX4_addWord_31 : decode cX4_addWord 31 = .ok (.aload_n 0, 1) := by decide +kernel
theorem dX4_addWord_32 : decode cX4_addWord 32 = .ok (.getfield 31, 3) := by decide +kernel
theorem dX4_addWord_35 : decode cX4_addWord 35 = .ok (.invokevirtual 51, 3) := by decide +kernel
theorem dX4_addWord_38 : decode cX4_addWord 38 = .ok (.return_, 1) := by decide +kernel
theorem dX4_addWord_39 : decode cX4_addWord 39 = .ok (.aload_n 0, 1) := by decide +kernel
theorem dX4_addWord_40 : decode cX4_addWord 40 = .ok (.getfield 12, 3) := by decide +kernel
theorem dX4_addWord_43 : decode cX4_addWord 43 = .ok (.getfield 68, 3) := by decide +kernel
theorem dX4_addWord_46 : decode cX4_addWord 46 = .ok (.istore_n 1, 1) := by decide +kernel
theorem dX4_addWord_47 : decode cX4_addWord 47 = .ok (.aload_n 0, 1) := by decide +kernel
theorem dX4_addWord_48 : decode cX4_addWord 48 = .ok (.getfield 12, 3) := by decide +kernel
theorem dX4_addWord_51 : decode cX4_addWord 51 = .ok (.dup, 1) := by decide +kernel
theorem dX4_addWord_52 : decode cX4_addWord 52 = .ok (.getfield 68, 3) := by decide +kernel
theorem dX4_addWord_55 : decode cX4_addWord 55 = .ok (.iconst 1, 1) := by decide +kernel
theorem dX4_addWord_56 : decode cX4_addWord 56 = .ok (.iadd, 1) := by decide +kernel
theorem dX4_addWord_57 : decode cX4_addWord 57 = .ok (.putfield 68, 3) := by decide +kernel
theorem dX4_addWord_60 : decode cX4_addWord 60 = .ok (.aload_n 0, 1) := by decide +kernel
theorem dX4_addWord_61 : decode cX4_addWord 61 = .ok (.getfield 12, 3) := by decide +kernel
theorem dX4_addWord_64 : decode cX4_addWord 64 = .ok (.getfield 71, 3) := by decide +kernel
theorem dX4_addWord_67 : decode cX4_addWord 67 = .ok (.iload_n 1, 1) := by decide +kernel
theorem dX4_addWord_68 : decode cX4_addWord 68 = .ok (.aload_n 0, 1) := by decide +kernel
theorem dX4_addWord_69 : decode cX4_addWord 69 = .ok (.getfield 34, 3) := by decide +kernel
theorem dX4_addWord_72 : decode cX4_addWord 72 = .ok (.lastore, 1) := by decide +kernel
theorem dX4_addWord_73 : decode cX4_addWord 73 = .ok (.aload_n 0, 1) := by decide +kernel
theorem dX4_addWord_74 : decode cX4_addWord 74 = .ok (.getfield 12, 3) := by decide +kernel
theorem dX4_addWord_77 : decode cX4_addWord 77 = .ok (.getfield 75, 3) := by decide +kernel
theorem dX4_addWord_80 : decode cX4_addWord 80 = .ok (.iload_n 1, 1) := by decide +kernel
theorem dX4_addWord_81 : decode cX4_addWord 81 = .ok (.iconst 0, 1) := by decide +kernel
theorem dX4_addWord_82 : decode cX4_addWord 82 = .ok (.iastore, 1) := by decide +kernel
theorem dX4_addWord_83 : decode cX4_addWord 83 = .ok (.aload_n 0, 1) := by decide +kernel
theorem dX4_addWord_84 : decode cX4_addWord 84 = .ok (.iload_n 1, 1) := by decide +kernel
theorem dX4_addWord_85 : decode cX4_addWord 85 = .ok (.invokevirtual 79, 3) := by decide +kernel
theorem dX4_addWord_88 : decode cX4_addWord 88 = .ok (.return_, 1) := by decide +kernel
theorem dX4_addToOpen_0 : decode cX4_addToOpen 0 = .ok (.aload_n 0, 1) := by decide +kernel
theorem dX4_addToOpen_1 : decode cX4_addToOpen 1 = .ok (.getfield 12, 3) := by decide +kernel
theorem dX4_addToOpen_4 : decode cX4_addToOpen 4 = .ok (.getfield 58, 3) := by decide +kernel
theorem dX4_addToOpen_7 : decode cX4_addToOpen 7 = .ok (.istore_n 2, 1) := by decide +kernel
theorem dX4_addToOpen_8 : decode cX4_addToOpen 8 = .ok (.aload_n 0, 1) := by decide +kernel
theorem dX4_addToOpen_9 : decode cX4_addToOpen 9 = .ok (.getfield 25, 3) := by decide +kernel
theorem dX4_addToOpen_12 : decode cX4_addToOpen 12 = .ok (.ifCond .ne 33, 3) := by decide +kernel
theorem dX4_addToOpen_15 : decode cX4_addToOpen 15 = .ok (.aload_n 0, 1) := by decide +kernel
theorem dX4_addToOpen_16 : decode cX4_addToOpen 16 = .ok (.getfield 12, 3) := by decide +kernel
theorem dX4_addToOpen_19 : decode cX4_addToOpen 19 = .ok (.getfield 83, 3) := by decide +kernel
theorem dX4_addToOpen_22 : decode cX4_addToOpen 22 = .ok (.iload_n 2, 1) := by decide +kernel
theorem dX4_addToOpen_23 : decode cX4_addToOpen 23 = .ok (.iconst 0, 1) := by decide +kernel
theorem dX4_addToOpen_24 : decode cX4_addToOpen 24 = .ok (.iastore, 1) := by decide +kernel
theorem dX4_addToOpen_25 : decode cX4_addToOpen 25 = .ok (.aload_n 0, 1) := by decide +kernel
theorem dX4_addToOpen_26 : decode cX4_addToOpen 26 = .ok (.getfield 12, 3) := by decide +kernel
theorem dX4_addToOpen_29 : decode cX4_addToOpen 29 = .ok (.getfield 86, 3) := by decide +kernel
theorem dX4_addToOpen_32 : decode cX4_addToOpen 32 = .ok (.iload_n 2, 1) := by decide +kernel
theorem dX4_addToOpen_33 : decode cX4_addToOpen 33 = .ok (.lconst 0, 1) := by decide +kernel
theorem dX4_addToOpen_34 : decode cX4_addToOpen 34 = .ok (.lastore, 1) := by decide +kernel
theorem dX4_addToOpen_35 : decode cX4_addToOpen 35 = .ok (.aload_n 0, 1) := by decide +kernel
theorem dX4_addToOpen_36 : decode cX4_addToOpen 36 = .ok (.getfield 12, 3) := by decide +kernel
theorem dX4_addToOpen_39 : decode cX4_addToOpen 39 = .ok (.getfield 89, 3) := by decide +kernel
theorem dX4_addToOpen_42 : decode cX4_addToOpen 42 = .ok (.iload_n 2, 1) := by decide +kernel
theorem dX4_addToOpen_43 : decode cX4_addToOpen 43 = .ok (.iload_n 1, 1) := by decide +kernel
theorem dX4_addToOpen_44 : decode cX4_addToOpen 44 = .ok (.iastore, 1) := by decide +kernel
theorem dX4_addToOpen_45 : decode cX4_addToOpen 45 = .ok (.aload_n 0, 1) := by decide +kernel
theorem dX4_addToOpen_46 : decode cX4_addToOpen 46 = .ok (.getfield 12, 3) := by decide +kernel
theorem dX4_addToOpen_49 : decode cX4_addToOpen 49 = .ok (.getfield 86, 3) := by decide +kernel
theorem dX4_addToOpen_52 : decode cX4_addToOpen 52 = .ok (.iload_n 2, 1) := by decide +kernel
theorem dX4_addToOpen_53 : decode cX4_addToOpen 53 = .ok (.laload, 1) := by decide +kernel
theorem dX4_addToOpen_54 : decode cX4_addToOpen 54 = .ok (.iload_n 1, 1) := by decide +kernel
theorem dX4_addToOpen_55 : decode cX4_addToOpen 55 = .ok (.lushr, 1) := by decide +kernel
theorem dX4_addToOpen_56 : decode cX4_addToOpen 56 = .ok (.lconst 1, 1) := by decide +kernel
theorem dX4_addToOpen_57 : decode cX4_addToOpen 57 = .ok (.land, 1) := by decide +kernel
theorem dX4_addToOpen_58 : decode cX4_addToOpen 58 = .ok (.lconst 0, 1) := by decide +kernel
theorem dX4_addToOpen_59 : decode cX4_addToOpen 59 = .ok (.lcmp, 1) := by decide +kernel
theorem dX4_addToOpen_60 : decode cX4_addToOpen 60 = .ok (.ifCond .ne 16, 3) := by decide +kernel
theorem dX4_addToOpen_63 : decode cX4_addToOpen 63 = .ok (.aload_n 0, 1) := by decide +kernel
theorem dX4_addToOpen_64 : decode cX4_addToOpen 64 = .ok (.getfield 12, 3) := by decide +kernel
theorem dX4_addToOpen_67 : decode cX4_addToOpen 67 = .ok (.getfield 75, 3) := by decide +kernel
theorem dX4_addToOpen_70 : decode cX4_addToOpen 70 = .ok (.iload_n 1, 1) := by decide +kernel
theorem dX4_addToOpen_71 : decode cX4_addToOpen 71 = .ok (.dup2, 1) := by decide +kernel
theorem dX4_addToOpen_72 : decode cX4_addToOpen 72 = .ok (.iaload, 1) := by decide +kernel
theorem dX4_addToOpen_73 : decode cX4_addToOpen 73 = .ok (.iconst 1, 1) := by decide +kernel
theorem dX4_addToOpen_74 : decode cX4_addToOpen 74 = .ok (.iadd, 1) := by decide +kernel
theorem dX4_addToOpen_75 : decode cX4_addToOpen 75 = .ok (.iastore, 1) := by decide +kernel
theorem dX4_addToOpen_76 : decode cX4_addToOpen 76 = .ok (.aload_n 0, 1) := by decide +kernel
theorem dX4_addToOpen_77 : decode cX4_addToOpen 77 = .ok (.getfield 12, 3) := by decide +kernel
theorem dX4_addToOpen_80 : decode cX4_addToOpen 80 = .ok (.getfield 86, 3) := by decide +kernel
theorem dX4_addToOpen_83 : decode cX4_addToOpen 83 = .ok (.iload_n 2, 1) := by decide +kernel
theorem dX4_addToOpen_84 : decode cX4_addToOpen 84 = .ok (.dup2, 1) := by decide +kernel
theorem dX4_addToOpen_85 : decode cX4_addToOpen 85 = .ok (.laload, 1) := by decide +kernel
theorem dX4_addToOpen_86 : decode cX4_addToOpen 86 = .ok (.lconst 1, 1) := by decide +kernel
theorem dX4_addToOpen_87 : decode cX4_addToOpen 87 = .ok (.iload_n 1, 1) := by decide +kernel
theorem dX4_addToOpen_88 : decode cX4_addToOpen 88 = .ok (.lshl, 1) := by decide +kernel
theorem dX4_addToOpen_89 : decode cX4_addToOpen 89 = .ok (.lor, 1) := by decide +kernel
theorem dX4_addToOpen_90 : decode cX4_addToOpen 90 = .ok (.lastore, 1) := by decide +kernel
theorem dX4_addToOpen_91 : decode cX4_addToOpen 91 = .ok (.aload_n 0, 1) := by decide +kernel
theorem dX4_addToOpen_92 : decode cX4_addToOpen 92 = .ok (.getfield 12, 3) := by decide +kernel
theorem dX4_addToOpen_95 : decode cX4_addToOpen 95 = .ok (.getfield 83, 3) := by decide +kernel
theorem dX4_addToOpen_98 : decode cX4_addToOpen 98 = .ok (.iload_n 2, 1) := by decide +kernel
theorem dX4_addToOpen_99 : decode cX4_addToOpen 99 = .ok (.dup2, 1) := by decide +kernel
theorem dX4_addToOpen_100 : decode cX4_addToOpen 100 = .ok (.iaload, 1) := by decide +kernel
theorem dX4_addToOpen_101 : decode cX4_addToOpen 101 = .ok (.aload_n 0, 1) := by decide +kernel
theorem dX4_addToOpen_102 : decode cX4_addToOpen 102 = .ok (.getfield 28, 3) := by decide +kernel
theorem dX4_addToOpen_105 : decode cX4_addToOpen 105 = .ok (.iconst 1, 1) := by decide +kernel
theorem dX4_addToOpen_106 : decode cX4_addToOpen 106 = .ok (.iadd, 1) := by decide +kernel
theorem dX4_addToOpen_107 : decode cX4_addToOpen 107 = .ok (.iadd, 1) := by decide +kernel
theorem dX4_addToOpen_108 : decode cX4_addToOpen 108 = .ok (.iastore, 1) := by decide +kernel
theorem dX4_addToOpen_109 : decode cX4_addToOpen 109 = .ok (.aload_n 0, 1) := by decide +kernel
theorem dX4_addToOpen_110 : decode cX4_addToOpen 110 = .ok (.dup, 1) := by decide +kernel
theorem dX4_addToOpen_111 : decode cX4_addToOpen 111 = .ok (.getfield 25, 3) := by decide +kernel
theorem dX4_addToOpen_114 : decode cX4_addToOpen 114 = .ok (.iconst 1, 1) := by decide +kernel
theorem dX4_addToOpen_115 : decode cX4_addToOpen 115 = .ok (.iadd, 1) := by decide +kernel
theorem dX4_addToOpen_116 : decode cX4_addToOpen 116 = .ok (.putfield 25, 3) := by decide +kernel
theorem dX4_addToOpen_119 : decode cX4_addToOpen 119 = .ok (.aload_n 0, 1) := by decide +kernel
theorem dX4_addToOpen_120 : decode cX4_addToOpen 120 = .ok (.getfield 12, 3) := by decide +kernel
theorem dX4_addToOpen_123 : decode cX4_addToOpen 123 = .ok (.getfield 92, 3) := by decide +kernel
theorem dX4_addToOpen_126 : decode cX4_addToOpen 126 = .ok (.iload_n 2, 1) := by decide +kernel
theorem dX4_addToOpen_127 : decode cX4_addToOpen 127 = .ok (.aload_n 0, 1) := by decide +kernel
theorem dX4_addToOpen_128 : decode cX4_addToOpen 128 = .ok (.getfield 25, 3) := by decide +kernel
theorem dX4_addToOpen_131 : decode cX4_addToOpen 131 = .ok (.iastore, 1) := by decide +kernel
theorem dX4_addToOpen_132 : decode cX4_addToOpen 132 = .ok (.return_, 1) := by decide +kernel
theorem dX4_refuse_0 : decode cX4_refuse 0 = .ok (.aload_n 0, 1) := by decide +kernel
theorem dX4_refuse_1 : decode cX4_refuse 1 = .ok (.getfield 18, 3) := by decide +kernel
theorem dX4_refuse_4 : decode cX4_refuse 4 = .ok (.ifCond .ne 13, 3) := by decide +kernel
theorem dX4_refuse_7 : decode cX4_refuse 7 = .ok (.aload_n 0, 1) := by decide +kernel
theorem dX4_refuse_8 : decode cX4_refuse 8 = .ok (.iload_n 1, 1) := by decide +kernel
theorem dX4_refuse_9 : decode cX4_refuse 9 = .ok (.putfield 18, 3) := by decide +kernel
theorem dX4_refuse_12 : decode cX4_refuse 12 = .ok (.aload_n 0, 1) := by decide +kernel
theorem dX4_refuse_13 : decode cX4_refuse 13 = .ok (.iload_n 2, 1) := by decide +kernel
theorem dX4_refuse_14 : decode cX4_refuse 14 = .ok (.putfield 22, 3) := by decide +kernel
theorem dX4_refuse_17 : decode cX4_refuse 17 = .ok (.return_, 1) := by decide +kernel
theorem dX5_init_0 : decode cX5_init 0 = .ok (.aload_n 0, 1) := by decide +kernel
theorem dX5_init_1 : decode cX5_init 1 = .ok (.invokespecial 3, 3) := by decide +kernel
theorem dX5_init_4 : decode cX5_init 4 = .ok (.aload_n 0, 1) := by decide +kernel
theorem dX5_init_5 : decode cX5_init 5 = .ok (.iconst 0, 1) := by decide +kernel
theorem dX5_init_6 : decode cX5_init 6 = .ok (.putfield 11, 3) := by decide +kernel
theorem dX5_init_9 : decode cX5_init 9 = .ok (.aload_n 0, 1) := by decide +kernel
theorem dX5_init_10 : decode cX5_init 10 = .ok (.iconst (-1), 1) := by decide +kernel
theorem dX5_init_11 : decode cX5_init 11 = .ok (.putfield 15, 3) := by decide +kernel
theorem dX5_init_14 : decode cX5_init 14 = .ok (.aload_n 0, 1) := by decide +kernel
theorem dX5_init_15 : decode cX5_init 15 = .ok (.iconst 0, 1) := by decide +kernel
theorem dX5_init_16 : decode cX5_init 16 = .ok (.putfield 18, 3) := by decide +kernel
theorem dX5_init_19 : decode cX5_init 19 = .ok (.aload_n 0, 1) := by decide +kernel
theorem dX5_init_20 : decode cX5_init 20 = .ok (.iconst 0, 1) := by decide +kernel
theorem dX5_init_21 : decode cX5_init 21 = .ok (.putfield 21, 3) := by decide +kernel
theorem dX5_init_24 : decode cX5_init 24 = .ok (.aload_n 0, 1) := by decide +kernel
theorem dX5_init_25 : decode cX5_init 25 = .ok (.bipush 17, 2) := by decide +kernel
theorem dX5_init_27 : decode cX5_init 27 = .ok (.newarray .long, 2) := by decide +kernel
theorem dX5_init_29 : decode cX5_init 29 = .ok (.putfield 24, 3) := by decide +kernel
theorem dX5_init_32 : decode cX5_init 32 = .ok (.aload_n 0, 1) := by decide +kernel
theorem dX5_init_33 : decode cX5_init 33 = .ok (.iconst 0, 1) := by decide +kernel
theorem dX5_init_34 : decode cX5_init 34 = .ok (.putfield 28, 3) := by decide +kernel
theorem dX5_init_37 : decode cX5_init 37 = .ok (.aload_n 0, 1) := by decide +kernel
theorem dX5_init_38 : decode cX5_init 38 = .ok (.iconst 0, 1) := by decide +kernel
theorem dX5_init_39 : decode cX5_init 39 = .ok (.putfield 32, 3) := by decide +kernel
theorem dX5_init_42 : decode cX5_init 42 = .ok (.aload_n 0, 1) := by decide +kernel
theorem dX5_init_43 : decode cX5_init 43 = .ok (.iconst 0, 1) := by decide +kernel
theorem dX5_init_44 : decode cX5_init 44 = .ok (.putfield 35, 3) := by decide +kernel
theorem dX5_init_47 : decode cX5_init 47 = .ok (.aload_n 0, 1) := by decide +kernel
theorem dX5_init_48 : decode cX5_init 48 = .ok (.iconst 0, 1) := by decide +kernel
theorem dX5_init_49 : decode cX5_init 49 = .ok (.putfield 38, 3) := by decide +kernel
theorem dX5_init_52 : decode cX5_init 52 = .ok (.return_, 1) := by decide +kernel
theorem dX5_findMost_0 : decode cX5_findMost 0 = .ok (.aload_n 0, 1) := by decide +kernel
theorem dX5_findMost_1 : decode cX5_findMost 1 = .ok (.iconst 0, 1) := by decide +kernel
theorem dX5_findMost_2 : decode cX5_findMost 2 = .ok (.putfield 11, 3) := by decide +kernel
theorem dX5_findMost_5 : decode cX5_findMost 5 = .ok (.aload_n 0, 1) := by decide +kernel
theorem dX5_findMost_6 : decode cX5_findMost 6 = .ok (.iload_n 3, 1) := by decide +kernel
theorem dX5_findMost_7 : decode cX5_findMost 7 = .ok (.putfield 15, 3) := by decide +kernel
theorem dX5_findMost_10 : decode cX5_findMost 10 = .ok (.aload_n 0, 1) := by decide +kernel
theorem dX5_findMost_11 : decode cX5_findMost 11 = .ok (.iload_n 2, 1) := by decide +kernel
theorem dX5_findMost_12 : decode cX5_findMost 12 = .ok (.putfield 18, 3) := by decide +kernel
theorem dX5_findMost_15 : decode cX5_findMost 15 = .ok (.aload_n 0, 1) := by decide +kernel
theorem dX5_findMost_16 : decode cX5_findMost 16 = .ok (.iconst 0, 1) := by decide +kernel
theorem dX5_findMost_17 : decode cX5_findMost 17 = .ok (.putfield 21, 3) := by decide +kernel
theorem dX5_findMost_20 : decode cX5_findMost 20 = .ok (.aload_n 0, 1) := by decide +kernel
theorem dX5_findMost_21 : decode cX5_findMost 21 = .ok (.aload_n 1, 1) := by decide +kernel
theorem dX5_findMost_22 : decode cX5_findMost 22 = .ok (.invokevirtual 41, 3) := by decide +kernel
theorem dX5_findMost_25 : decode cX5_findMost 25 = .ok (.return_, 1) := by decide +kernel
theorem dX5_findFewest_0 : decode cX5_findFewest 0 = .ok (.aload_n 0, 1) := by decide +kernel
theorem dX5_findFewest_1 : decode cX5_findFewest 1 = .ok (.iconst 1, 1) := by decide +kernel
theorem dX5_findFewest_2 : decode cX5_findFewest 2 = .ok (.putfield 11, 3) := by decide +kernel
theorem dX5_findFewest_5 : decode cX5_findFewest 5 = .ok (.aload_n 0, 1) := by decide +kernel
theorem dX5_findFewest_6 : decode cX5_findFewest 6 = .ok (.iconst (-1), 1) := by decide +kernel
theorem dX5_findFewest_7 : decode cX5_findFewest 7 = .ok (.putfield 15, 3) := by decide +kernel
theorem dX5_findFewest_10 : decode cX5_findFewest 10 = .ok (.aload_n 0, 1) := by decide +kernel
theorem dX5_findFewest_11 : decode cX5_findFewest 11 = .ok (.sipush 600, 3) := by decide +kernel
theorem dX5_findFewest_14 : decode cX5_findFewest 14 = .ok (.putfield 18, 3) := by decide +kernel
theorem dX5_findFewest_17 : decode cX5_findFewest 17 = .ok (.aload_n 0, 1) := by decide +kernel
theorem dX5_findFewest_18 : decode cX5_findFewest 18 = .ok (.aload_n 1, 1) := by decide +kernel
theorem dX5_findFewest_19 : decode cX5_findFewest 19 = .ok (.aload_n 1, 1) := by decide +kernel
theorem dX5_findFewest_20 : decode cX5_findFewest 20 = .ok (.invokevirtual 45, 3) := by decide +kernel
theorem dX5_findFewest_23 : decode cX5_findFewest 23 = .ok (.invokevirtual 51, 3) := by decide +kernel
theorem dX5_findFewest_26 : decode cX5_findFewest 26 = .ok (.putfield 21, 3) := by decide +kernel
theorem dX5_findFewest_29 : decode cX5_findFewest 29 = .ok (.aload_n 0, 1) := by decide +kernel
theorem dX5_findFewest_30 : decode cX5_findFewest 30 = .ok (.aload_n 1, 1) := by decide +kernel
theorem dX5_findFewest_31 : decode cX5_findFewest 31 = .ok (.invokevirtual 41, 3) := by decide +kernel
theorem dX5_findFewest_34 : decode cX5_findFewest 34 = .ok (.return_, 1) := by decide +kernel
theorem dX5_findShortest_0 : decode cX5_findShortest 0 = .ok (.aload_n 0, 1) := by decide +kernel
theorem dX5_findShortest_1 : decode cX5_findShortest 1 = .ok (.iconst 2, 1) := by decide +kernel
theorem dX5_findShortest_2 : decode cX5_findShortest 2 = .ok (.putfield 11, 3) := by decide +kernel
theorem dX5_findShortest_5 : decode cX5_findShortest 5 = .ok (.aload_n 0, 1) := by decide +kernel
theorem dX5_findShortest_6 : decode cX5_findShortest 6 = .ok (.iconst (-1), 1) := by decide +kernel
theorem dX5_findShortest_7 : decode cX5_findShortest 7 = .ok (.putfield 15, 3) := by decide +kernel
theorem dX5_findShortest_10 : decode cX5_findShortest 10 = .ok (.aload_n 0, 1) := by decide +kernel
theorem dX5_findShortest_11 : decode cX5_findShortest 11 = .ok (.sipush 600, 3) := by decide +kernel
theorem dX5_findShortest_14 : decode cX5_findShortest 14 = .ok (.putfield 18, 3) := by decide +kernel
theorem dX5_findShortest_17 : decode cX5_findShortest 17 = .ok (.aload_n 0, 1) := by decide +kernel
theorem dX5_findShortest_18 : decode cX5_findShortest 18 = .ok (.iload_n 2, 1) := by decide +kernel
theorem dX5_findShortest_19 : decode cX5_findShortest 19 = .ok (.putfield 21, 3) := by decide +kernel
theorem dX5_findShortest_22 : decode cX5_findShortest 22 = .ok (.aload_n 0, 1) := by decide +kernel
theorem dX5_findShortest_23 : decode cX5_findShortest 23 = .ok (.aload_n 1, 1) := by decide +kernel
theorem dX5_findShortest_24 : decode cX5_findShortest 24 = .ok (.invokevirtual 41, 3) := by decide +kernel
theorem dX5_findShortest_27 : decode cX5_findShortest 27 = .ok (.return_, 1) := by decide +kernel
theorem dX5_visitAll_0 : decode cX5_visitAll 0 = .ok (.aload_n 0, 1) := by decide +kernel
theorem dX5_visitAll_1 : decode cX5_visitAll 1 = .ok (.iconst 0, 1) := by decide +kernel
theorem dX5_visitAll_2 : decode cX5_visitAll 2 = .ok (.putfield 28, 3) := by decide +kernel
theorem dX5_visitAll_5 : decode cX5_visitAll 5 = .ok (.aload_n 0, 1) := by decide +kernel
theorem dX5_visitAll_6 : decode cX5_visitAll 6 = .ok (.iconst 0, 1) := by decide +kernel
theorem dX5_visitAll_7 : decode cX5_visitAll 7 = .ok (.putfield 32, 3) := by decide +kernel
theorem dX5_visitAll_10 : decode cX5_visitAll 10 = .ok (.aload_n 0, 1) := by decide +kernel
theorem dX5_visitAll_11 : decode cX5_visitAll 11 = .ok (.iconst 0, 1) := by decide +kernel
theorem dX5_visitAll_12 : decode cX5_visitAll 12 = .ok (.putfield 35, 3) := by decide +kernel
theorem dX5_visitAll_15 : decode cX5_visitAll 15 = .ok (.aload_n 0, 1) := by decide +kernel
theorem dX5_visitAll_16 : decode cX5_visitAll 16 = .ok (.iconst 0, 1) := by decide +kernel
theorem dX5_visitAll_17 : decode cX5_visitAll 17 = .ok (.putfield 38, 3) := by decide +kernel
theorem dX5_visitAll_20 : decode cX5_visitAll 20 = .ok (.aload_n 0, 1) := by decide +kernel
theorem dX5_visitAll_21 : decode cX5_visitAll 21 = .ok (.getfield 24, 3) := by decide +kernel
theorem dX5_visitAll_24 : decode cX5_visitAll 24 = .ok (.aload_n 1, 1) := by decide +kernel
theorem dX5_visitAll_25 : decode cX5_visitAll 25 = .ok (.getfield 55, 3) := by decide +kernel
theorem dX5_visitAll_28 : decode cX5_visitAll 28 = .ok (.lconst 0, 1) := by decide +kernel
theorem dX5_visitAll_29 : decode cX5_visitAll 29 = .ok (.lastore, 1) := by decide +kernel
theorem dX5_visitAll_30 : decode cX5_visitAll 30 = .ok (.aload_n 1, 1) := by decide +kernel
theorem dX5_visitAll_31 : decode cX5_visitAll 31 = .ok (.getfield 55, 3) := by decide +kernel
theorem dX5_visitAll_34 : decode cX5_visitAll 34 = .ok (.iconst 1, 1) := by decide +kernel
theorem dX5_visitAll_35 : decode cX5_visitAll 35 = .ok (.isub, 1) := by decide +kernel
theorem dX5_visitAll_36 : decode cX5_visitAll 36 = .ok (.istore_n 2, 1) := by decide +kernel
theorem dX5_visitAll_37 : decode cX5_visitAll 37 = .ok (.iload_n 2, 1) := by decide +kernel
theorem dX5_visitAll_38 : decode cX5_visitAll 38 = .ok (.ifCond .lt 42, 3) := by decide +kernel
theorem dX5_visitAll_41 : decode cX5_visitAll 41 = .ok (.aload_n 0, 1) := by decide +kernel
theorem dX5_visitAll_42 : decode cX5_visitAll 42 = .ok (.getfield 24, 3) := by decide +kernel
theorem dX5_visitAll_45 : decode cX5_visitAll 45 = .ok (.iload_n 2, 1) := by decide +kernel
theorem dX5_visitAll_46 : decode cX5_visitAll 46 = .ok (.aload_n 0, 1) := by decide +kernel
theorem dX5_visitAll_47 : decode cX5_visitAll 47 = .ok (.getfield 24, 3) := by decide +kernel
theorem dX5_visitAll_50 : decode cX5_visitAll 50 = .ok (.iload_n 2, 1) := by decide +kernel
theorem dX5_visitAll_51 : decode cX5_visitAll 51 = .ok (.iconst 1, 1) := by decide +kernel
theorem dX5_visitAll_52 : decode cX5_visitAll 52 = .ok (.iadd, 1) := by decide +kernel
theorem dX5_visitAll_53 : decode cX5_visitAll 53 = .ok (.laload, 1) := by decide +kernel
theorem dX5_visitAll_54 : decode cX5_visitAll 54 = .ok (.iload_n 2, 1) := by decide +kernel
theorem dX5_visitAll_55 : decode cX5_visitAll 55 = .ok (.aload_n 0, 1) := by decide +kernel
theorem dX5_visitAll_56 : decode cX5_visitAll 56 = .ok (.getfield 15, 3) := by decide +kernel
theorem dX5_visitAll_59 : decode cX5_visitAll 59 = .ok (.if_icmp .ne 7, 3) := by decide +kernel
theorem dX5_visitAll_62 : decode cX5_visitAll 62 = .ok (.lconst 0, 1) := by decide +kernel
theorem dX5_visitAll_63 : decode cX5_visitAll 63 = .ok (.goto 9, 3) := by decide +kernel
theorem dX5_visitAll_66 : decode cX5_visitAll 66 = .ok (.aload_n 1, 1) := by decide +kernel
theorem dX5_visitAll_67 : decode cX5_visitAll 67 = .ok (.getfield 58, 3) := by decide +kernel
theorem dX5_visitAll_70 : decode cX5_visitAll 70 = .ok (.iload_n 2, 1) := by decide +kernel
theorem dX5_visitAll_71 : decode cX5_visitAll 71 = .ok (.laload, 1) := by decide +kernel
theorem dX5_visitAll_72 : decode cX5_visitAll 72 = .ok (.lor, 1) := by decide +kernel
theorem dX5_visitAll_73 : decode cX5_visitAll 73 = .ok (.lastore, 1) := by decide +kernel
theorem dX5_visitAll_74 : decode cX5_visitAll 74 = .ok (.iinc 2 (-1), 3) := by decide +kernel
theorem dX5_visitAll_77 : decode cX5_visitAll 77 = .ok (.goto (-40), 3) := by decide +kernel
theorem dX5_visitAll_80 : decode cX5_visitAll 80 = .ok (.aload_n 0, 1) := by decide +kernel
theorem dX5_visitAll_81 : decode cX5_visitAll 81 = .ok (.aload_n 1, 1) := by decide +kernel
theorem dX5_visitAll_82 : decode cX5_visitAll 82 = .ok (.iconst 0, 1) := by decide +kernel
theorem dX5_visitAll_83 : decode cX5_visitAll 83 = .ok (.iconst 0, 1) := by decide +kernel
theorem dX5_visitAll_84 : decode cX5_visitAll 84 = .ok (.lconst 0, 1) := by decide +kernel
theorem dX5_visitAll_85 : decode cX5_visitAll 85 = .ok (.iconst 0, 1) := by decide +kernel
theorem dX5_visitAll_86 : decode cX5_visitAll 86 = .ok (.iconst 0, 1) := by decide +kernel
theorem dX5_visitAll_87 : decode cX5_visitAll 87 = .ok (.aload_n 1, 1) := by decide +kernel
theorem dX5_visitAll_88 : decode cX5_visitAll 88 = .ok (.aload_n 0, 1) := by decide +kernel
theorem dX5_visitAll_89 : decode cX5_visitAll 89 = .ok (.getfield 24, 3) := by decide +kernel
theorem dX5_visitAll_92 : decode cX5_visitAll 92 = .ok (.iconst 0, 1) := by decide +kernel
theorem dX5_visitAll_93 : decode cX5_visitAll 93 = .ok (.laload, 1) := by decide +kernel
theorem dX5_visitAll_94 : decode cX5_visitAll 94 = .ok (.invokevirtual 61, 3) := by decide +kernel
theorem dX5_visitAll_97 : decode cX5_visitAll 97 = .ok (.invokevirtual 65, 3) := by decide +kernel
theorem dX5_visitAll_100 : decode cX5_visitAll 100 = .ok (.return_, 1) := by decide +kernel
theorem dX5_visit_0 : decode cX5_visit 0 = .ok (.iload 7, 2) := by decide +kernel
theorem dX5_visit_2 : decode cX5_visit 2 = .ok (.aload_n 0, 1) := by decide +kernel
theorem dX5_visit_3 : decode cX5_visit 3 = .ok (.getfield 18, 3) := by decide +kernel
theorem dX5_visit_6 : decode cX5_visit 6 = .ok (.if_icmp .gt 31, 3) := by decide +kernel
theorem dX5_visit_9 : decode cX5_visit 9 = .ok (.iload 8, 2) := by decide +kernel
theorem dX5_visit_11 : decode cX5_visit 11 = .ok (.aload_n 0, 1) := by decide +kernel
theorem dX5_visit_12 : decode cX5_visit 12 = .ok (.getfield 21, 3) := by decide +kernel
theorem dX5_visit_15 : decode cX5_visit 15 = .ok (.if_icmp .lt 22, 3) := by decide +kernel
theorem dX5_visit_18 : decode cX5_visit 18 = .ok (.aload_n 0, 1) := by decide +kernel
theorem dX5_visit_19 : decode cX5_visit 19 = .ok (.getfield 28, 3) := by decide +kernel
theorem dX5_visit_22 : decode cX5_visit 22 = .ok (.ifCond .eq 16, 3) := by decide +kernel
theorem dX5_visit_25 : decode cX5_visit 25 = .ok (.aload_n 0, 1) := by decide +kernel
theorem dX5_visit_26 : decode cX5_visit 26 = .ok (.iload_n 3, 1) := by decide +kernel
theorem dX5_visit_27 : decode cX5_visit 27 = .ok (.iload 8, 2) := by decide +kernel
theorem dX5_visit_29 : decode cX5_visit 29 = .ok (.iload 7, 2) := by decide +kernel
theorem dX5_visit_31 : decode cX5_visit 31 = .ok (.invokevirtual 69, 3) := by decide +kernel
theorem dX5_visit_34 : decode cX5_visit 34 = .ok (.ifCond .le 4, 3) := by decide +kernel
theorem dX5_visit_37 : decode cX5_visit 37 = .ok (.return_, 1) := by decide +kernel
theorem dX5_visit_38 : decode cX5_visit 38 = .ok (.iload_n 2, 1) := by decide +kernel
theorem dX5_visit_39 : decode cX5_visit 39 = .ok (.aload_n 1, 1) := by decide +kernel
theorem dX5_visit_40 : decode cX5_visit 40 = .ok (.getfield 55, 3) := by decide +kernel
theorem dX5_visit_43 : decode cX5_visit 43 = .ok (.if_icmp .ge 14, 3) := by decide +kernel
theorem dX5_visit_46 : decode cX5_visit 46 = .ok (.aload_n 0, 1) := by decide +kernel
theorem dX5_visit_47 : decode cX5_visit 47 = .ok (.iload 6, 2) := by decide +kernel
theorem dX5_visit_49 : decode cX5_visit 49 = .ok (.iload 8, 2) := by decide +kernel
theorem dX5_visit_51 : decode cX5_visit 51 = .ok (.invokevirtual 73, 3) := by decide +kernel
theorem dX5_visit_54 : decode cX5_visit 54 = .ok (.ifCond .eq 13, 3) := by decide +kernel
theorem dX5_visit_57 : decode cX5_visit 57 = .ok (.aload_n 0, 1) := by decide +kernel
theorem dX5_visit_58 : decode cX5_visit 58 = .ok (.iload_n 3, 1) := by decide +kernel
theorem dX5_visit_59 : decode cX5_visit 59 = .ok (.iload 6, 2) := by decide +kernel
theorem dX5_visit_61 : decode cX5_visit 61 = .ok (.iload 7, 2) := by decide +kernel
theorem dX5_visit_63 : decode cX5_visit 63 = .ok (.invokevirtual 77, 3) := by decide +kernel
theorem dX5_visit_66 : decode cX5_visit 66 = .ok (.return_, 1) := by decide +kernel
theorem dX5_visit_67 : decode cX5_visit 67 = .ok (.aload_n 0, 1) := by decide +kernel
theorem dX5_visit_68 : decode cX5_visit 68 = .ok (.aload_n 1, 1) := by decide +kernel
theorem dX5_visit_69 : decode cX5_visit 69 = .ok (.iload_n 2, 1) := by decide +kernel
theorem dX5_visit_70 : decode cX5_visit 70 = .ok (.iload_n 3, 1) := by decide +kernel
theorem dX5_visit_71 : decode cX5_visit 71 = .ok (.invokevirtual 81, 3) := by decide +kernel
theorem dX5_visit_74 : decode cX5_visit 74 = .ok (.ifCond .eq 60, 3) := by decide +kernel
theorem dX5_visit_77 : decode cX5_visit 77 = .ok (.aload_n 1, 1) := by decide +kernel
theorem dX5_visit_78 : decode cX5_visit 78 = .ok (.aload_n 1, 1) := by decide +kernel
theorem dX5_visit_79 : decode cX5_visit 79 = .ok (.getfield 58, 3) := by decide +kernel
theorem dX5_visit_82 : decode cX5_visit 82 = .ok (.iload_n 2, 1) := by decide +kernel
theorem dX5_visit_83 : decode cX5_visit 83 = .ok (.laload, 1) := by decide +kernel
theorem dX5_visit_84 : decode cX5_visit 84 = .ok (.lload 4, 2) := by decide +kernel
theorem dX5_visit_86 : decode cX5_visit 86 = .ok (.ldc2_w 85, 3) := by decide +kernel
theorem dX5_visit_89 : decode cX5_visit 89 = .ok (.lxor, 1) := by decide +kernel
theorem dX5_visit_90 : decode cX5_visit 90 = .ok (.land, 1) := by decide +kernel
theorem dX5_visit_91 : decode cX5_visit 91 = .ok (.invokevirtual 61, 3) := by decide +kernel
theorem dX5_visit_94 : decode cX5_visit 94 = .ok (.istore 9, 2) := by decide +kernel
theorem dX5_visit_96 : decode cX5_visit 96 = .ok (.aload_n 0, 1) := by decide +kernel
theorem dX5_visit_97 : decode cX5_visit 97 = .ok (.aload_n 1, 1) := by decide +kernel
theorem dX5_visit_98 : decode cX5_visit 98 = .ok (.iload_n 2, 1) := by decide +kernel
theorem dX5_visit_99 : decode cX5_visit 99 = .ok (.iconst 1, 1) := by decide +kernel
theorem dX5_visit_100 : decode cX5_visit 100 = .ok (.iadd, 1) := by decide +kernel
theorem dX5_visit_101 : decode cX5_visit 101 = .ok (.iload_n 3, 1) := by decide +kernel
theorem dX5_visit_102 : decode cX5_visit 102 = .ok (.iconst 1, 1) := by decide +kernel
theorem dX5_visit_103 : decode cX5_visit 103 = .ok (.iload_n 2, 1) := by decide +kernel
theorem dX5_visit_104 : decode cX5_visit 104 = .ok (.ishl, 1) := by decide +kernel
theorem dX5_visit_105 : decode cX5_visit 105 = .ok (.ior, 1) := by decide +kernel
theorem dX5_visit_106 : decode cX5_visit 106 = .ok (.lload 4, 2) := by decide +kernel
theorem dX5_visit_108 : decode cX5_visit 108 = .ok (.aload_n 1, 1) := by decide +kernel
theorem dX5_visit_109 : decode cX5_visit 109 = .ok (.getfield 58, 3) := by decide +kernel
theorem dX5_visit_112 : decode cX5_visit 112 = .ok (.iload_n 2, 1) := by decide +kernel
theorem dX5_visit_113 : decode cX5_visit 113 = .ok (.laload, 1) := by decide +kernel
theorem dX5_visit_114 : decode cX5_visit 114 = .ok (.lor, 1) := by decide +kernel
theorem dX5_visit_115 : decode cX5_visit 115 = .ok (.iload 6, 2) := by decide +kernel
theorem dX5_visit_117 : decode cX5_visit 117 = .ok (.iload 9, 2) := by decide +kernel
theorem dX5_visit_119 : decode cX5_visit 119 = .ok (.iadd, 1) := by decide +kernel
theorem dX5_visit_120 : decode cX5_visit 120 = .ok (.iload 7, 2) := by decide +kernel
theorem dX5_visit_122 : decode cX5_visit 122 = .ok (.aload_n 1, 1) := by decide +kernel
theorem dX5_visit_123 : decode cX5_visit 123 = .ok (.getfield 87, 3) := by decide +kernel
theorem dX5_visit_126 : decode cX5_visit 126 = .ok (.iload_n 2, 1) := by decide +kernel
theorem dX5_visit_127 : decode cX5_visit 127 = .ok (.iaload, 1) := by decide +kernel
theorem dX5_visit_128 : decode cX5_visit 128 = .ok (.iadd, 1) := by decide +kernel
theorem dX5_visit_129 : decode cX5_visit 129 = .ok (.iload 8, 2) := by decide +kernel
theorem dX5_visit_131 : decode cX5_visit 131 = .ok (.invokevirtual 65, 3) := by decide +kernel
theorem dX5_visit_134 : decode cX5_visit 134 = .ok (.aload_n 1, 1) := by decide +kernel
theorem dX5_visit_135 : decode cX5_visit 135 = .ok (.aload_n 0, 1) := by decide +kernel
theorem dX5_visit_136 : decode cX5_visit 136 = .ok (.getfield 24, 3) := by decide +kernel
theorem dX5_visit_139 : decode cX5_visit 139 = .ok (.iload_n 2, 1) := by decide +kernel
theorem dX5_visit_140 : decode cX5_visit 140 = .ok (.laload, 1) := by decide +kernel
theorem dX5_visit_141 : decode cX5_visit 141 = .ok (.aload_n 0, 1) := by decide +kernel
theorem dX5_visit_142 : decode cX5_visit 142 = .ok (.getfield 24, 3) := by decide +kernel
theorem dX5_visit_145 : decode cX5_visit 145 = .ok (.iload_n 2, 1) := by decide +kernel
theorem dX5_visit_146 : decode cX5_visit 146 = .ok (.iconst 1, 1) := by decide +kernel
theorem dX5_visit_147 : decode cX5_visit 147 = .ok (.iadd, 1) := by decide +kernel
theorem dX5_visit_148 : decode cX5_visit 148 = .ok (.laload, 1) := by decide +kernel
theorem dX5_visit_149 : decode cX5_visit 149 = .ok (.ldc2_w 85, 3) := by decide +kernel
theorem dX5_visit_152 : decode cX5_visit 152 = .ok (.lxor, 1) := by decide +kernel
theorem dX5_visit_153 : decode cX5_visit 153 = .ok (.land, 1) := by decide +kernel
theorem dX5_visit_154 : decode cX5_visit 154 = .ok (.lload 4, 2) := by decide +kernel
theorem dX5_visit_156 : decode cX5_visit 156 = .ok (.ldc2_w 85, 3) := by decide +kernel
theorem dX5_visit_159 : decode cX5_visit 159 = .ok (.lxor, 1) := by decide +kernel
theorem dX5_visit_160 : decode cX5_visit 160 = .ok (.land, 1) := by decide +kernel
theorem dX5_visit_161 : decode cX5_visit 161 = .ok (.invokevirtual 61, 3) := by decide +kernel
theorem dX5_visit_164 : decode cX5_visit 164 = .ok (.istore 9, 2) := by decide +kernel
theorem dX5_visit_166 : decode cX5_visit 166 = .ok (.aload_n 0, 1) := by decide +kernel
theorem dX5_visit_167 : decode cX5_visit 167 = .ok (.aload_n 1, 1) := by decide +kernel
theorem dX5_visit_168 : decode cX5_visit 168 = .ok (.iload_n 2, 1) := by decide +kernel
theorem dX5_visit_169 : decode cX5_visit 169 = .ok (.iconst 1, 1) := by decide +kernel
theorem dX5_visit_170 : decode cX5_visit 170 = .ok (.iadd, 1) := by decide +kernel
theorem dX5_visit_171 : decode cX5_visit 171 = .ok (.iload_n 3, 1) := by decide +kernel
theorem dX5_visit_172 : decode cX5_visit 172 = .ok (.lload 4, 2) := by decide +kernel
theorem dX5_visit_174 : decode cX5_visit 174 = .ok (.iload 6, 2) := by decide +kernel
theorem dX5_visit_176 : decode cX5_visit 176 = .ok (.iload 7, 2) := by decide +kernel
theorem dX5_visit_178 : decode cX5_visit 178 = .ok (.iload 8, 2) := by decide +kernel
theorem dX5_visit_180 : decode cX5_visit 180 = .ok (.iload 9, 2) := by decide +kernel
theorem dX5_visit_182 : decode cX5_visit 182 = .ok (.isub, 1) := by decide +kernel
theorem dX5_visit_183 : decode cX5_visit 183 = .ok (.invokevirtual 65, 3) := by decide +kernel
theorem dX5_visit_186 : decode cX5_visit 186 = .ok (.return_, 1) := by decide +kernel
theorem dX5_isEnough_0 : decode cX5_isEnough 0 = .ok (.iload_n 1, 1) := by decide +kernel
theorem dX5_isEnough_1 : decode cX5_isEnough 1 = .ok (.iload_n 2, 1) := by decide +kernel
theorem dX5_isEnough_2 : decode cX5_isEnough 2 = .ok (.if_icmp .eq 18, 3) := by decide +kernel
theorem dX5_isEnough_5 : decode cX5_isEnough 5 = .ok (.aload_n 0, 1) := by decide +kernel
theorem dX5_isEnough_6 : decode cX5_isEnough 6 = .ok (.getfield 11, 3) := by decide +kernel
theorem dX5_isEnough_9 : decode cX5_isEnough 9 = .ok (.ifCond .eq 15, 3) := by decide +kernel
theorem dX5_isEnough_12 : decode cX5_isEnough 12 = .ok (.iload_n 1, 1) := by decide +kernel
theorem dX5_isEnough_13 : decode cX5_isEnough 13 = .ok (.aload_n 0, 1) := by decide +kernel
theorem dX5_isEnough_14 : decode cX5_isEnough 14 = .ok (.getfield 21, 3) := by decide +kernel
theorem dX5_isEnough_17 : decode cX5_isEnough 17 = .ok (.if_icmp .lt 7, 3) := by decide +kernel
theorem dX5_isEnough_20 : decode cX5_isEnough 20 = .ok (.iconst 1, 1) := by decide +kernel
theorem dX5_isEnough_21 : decode cX5_isEnough 21 = .ok (.goto 4, 3) := by decide +kernel
theorem dX5_isEnough_24 : decode cX5_isEnough 24 = .ok (.iconst 0, 1) := by decide +kernel
theorem dX5_isEnough_25 : decode cX5_isEnough 25 = .ok (.ireturn, 1) := by decide +kernel
theorem dX5_mayHave_0 : decode cX5_mayHave 0 = .ok (.iload_n 2, 1) := by decide +kernel
theorem dX5_mayHave_1 : decode cX5_mayHave 1 = .ok (.aload_n 0, 1) := by decide +kernel
theorem dX5_mayHave_2 : decode cX5_mayHave 2 = .ok (.getfield 15, 3) := by decide +kernel
theorem dX5_mayHave_5 : decode cX5_mayHave 5 = .ok (.if_icmp .eq 24, 3) := by decide +kernel
theorem dX5_mayHave_8 : decode cX5_mayHave 8 = .ok (.aload_n 1, 1) := by decide +kernel
theorem dX5_mayHave_9 : decode cX5_mayHave 9 = .ok (.getfield 91, 3) := by decide +kernel
theorem dX5_mayHave_12 : decode cX5_mayHave 12 = .ok (.iload_n 2, 1) := by decide +kernel
theorem dX5_mayHave_13 : decode cX5_mayHave 13 = .ok (.iaload, 1) := by decide +kernel
theorem dX5_mayHave_14 : decode cX5_mayHave 14 = .ok (.iload_n 3, 1) := by decide +kernel
theorem dX5_mayHave_15 : decode cX5_mayHave 15 = .ok (.iconst 1, 1) := by decide +kernel
theorem dX5_mayHave_16 : decode cX5_mayHave 16 = .ok (.iload_n 2, 1) := by decide +kernel
theorem dX5_mayHave_17 : decode cX5_mayHave 17 = .ok (.ishl, 1) := by decide +kernel
theorem dX5_mayHave_18 : decode cX5_mayHave 18 = .ok (.ior, 1) := by decide +kernel
theorem dX5_mayHave_19 : decode cX5_mayHave 19 = .ok (.iconst (-1), 1) := by decide +kernel
theorem dX5_mayHave_20 : decode cX5_mayHave 20 = .ok (.ixor, 1) := by decide +kernel
theorem dX5_mayHave_21 : decode cX5_mayHave 21 = .ok (.iand, 1) := by decide +kernel
theorem dX5_mayHave_22 : decode cX5_mayHave 22 = .ok (.ifCond .ne 7, 3) := by decide +kernel
theorem dX5_mayHave_25 : decode cX5_mayHave 25 = .ok (.iconst 1, 1) := by decide +kernel
theorem dX5_mayHave_26 : decode cX5_mayHave 26 = .ok (.goto 4, 3) := by decide +kernel
theorem dX5_mayHave_29 : decode cX5_mayHave 29 = .ok (.iconst 0, 1) := by decide +kernel
theorem dX5_mayHave_30 : decode cX5_mayHave 30 = .ok (.ireturn, 1) := by decide +kernel
theorem dX5_offer_0 : decode cX5_offer 0 = .ok (.aload_n 0, 1) := by decide +kernel
theorem dX5_offer_1 : decode cX5_offer 1 = .ok (.getfield 28, 3) := by decide +kernel
theorem dX5_offer_4 : decode cX5_offer 4 = .ok (.ifCond .eq 13, 3) := by decide +kernel
theorem dX5_offer_7 : decode cX5_offer 7 = .ok (.aload_n 0, 1) := by decide +kernel
theorem dX5_offer_8 : decode cX5_offer 8 = .ok (.iload_n 1, 1) := by decide +kernel
theorem dX5_offer_9 : decode cX5_offer 9 = .ok (.iload_n 2, 1) := by decide +kernel
theorem dX5_offer_10 : decode cX5_offer 10 = .ok (.iload_n 3, 1) := by decide +kernel
theorem dX5_offer_11 : decode cX5_offer 11 = .ok (.invokevirtual 69, 3) := by decide +kernel
theorem dX5_offer_14 : decode cX5_offer 14 = .ok (.goto 4, 3) := by decide +kernel
theorem dX5_offer_17 : decode cX5_offer 17 = .ok (.iconst (-1), 1) := by decide +kernel
theorem dX5_offer_18 : decode cX5_offer 18 = .ok (.istore 4, 2) := by decide +kernel
theorem dX5_offer_20 : decode cX5_offer 20 = .ok (.iload 4, 2) := by decide +kernel
theorem dX5_offer_22 : decode cX5_offer 22 = .ok (.ifCond .lt 16, 3) := by decide +kernel
theorem dX5_offer_25 : decode cX5_offer 25 = .ok (.iload 4, 2) := by decide +kernel
theorem dX5_offer_27 : decode cX5_offer 27 = .ok (.ifCond .ne 31, 3) := by decide +kernel
theorem dX5_offer_30 : decode cX5_offer 30 = .ok (.iload_n 1, 1) := by decide +kernel
theorem dX5_offer_31 : decode cX5_offer 31 = .ok (.aload_n 0, 1) := by decide +kernel
theorem dX5_offer_32 : decode cX5_offer 32 = .ok (.getfield 32, 3) := by decide +kernel
theorem dX5_offer_35 : decode cX5_offer 35 = .ok (.if_icmp .ge 23, 3) := by decide +kernel
theorem dX5_offer_38 : decode cX5_offer 38 = .ok (.aload_n 0, 1) := by decide +kernel
theorem dX5_offer_39 : decode cX5_offer 39 = .ok (.iconst 1, 1) := by decide +kernel
theorem dX5_offer_40 : decode cX5_offer 40 = .ok (.putfield 28, 3) := by decide +kernel
theorem dX5_offer_43 : decode cX5_offer 43 = .ok (.aload_n 0, 1) := by decide +kernel
theorem dX5_offer_44 : decode cX5_offer 44 = .ok (.iload_n 1, 1) := by decide +kernel
theorem dX5_offer_45 : decode cX5_offer 45 = .ok (.putfield 32, 3) := by decide +kernel
theorem dX5_offer_48 : decode cX5_offer 48 = .ok (.aload_n 0, 1) := by decide +kernel
theorem dX5_offer_49 : decode cX5_offer 49 = .ok (.iload_n 2, 1) := by decide +kernel
theorem dX5_offer_50 : decode cX5_offer 50 = .ok (.putfield 35, 3) := by decide +kernel
theorem dX5_offer_53 : decode cX5_offer 53 = .ok (.aload_n 0, 1) := by decide +kernel
theorem dX5_offer_54 : decode cX5_offer 54 = .ok (.iload_n 3, 1) := by decide +kernel
theorem dX5_offer_55 : decode cX5_offer 55 = .ok (.putfield 38, 3) := by decide +kernel
theorem dX5_offer_58 : decode cX5_offer 58 = .ok (.return_, 1) := by decide +kernel
theorem dX5_ranked_0 : decode cX5_ranked 0 = .ok (.aload_n 0, 1) := by decide +kernel
theorem dX5_ranked_1 : decode cX5_ranked 1 = .ok (.getfield 35, 3) := by decide +kernel
theorem dX5_ranked_4 : decode cX5_ranked 4 = .ok (.iload_n 2, 1) := by decide +kernel
theorem dX5_ranked_5 : decode cX5_ranked 5 = .ok (.invokestatic 94, 3) := by decide +kernel
theorem dX5_ranked_8 : decode cX5_ranked 8 = .ok (.istore 4, 2) := by decide +kernel
theorem dX5_ranked_10 : decode cX5_ranked 10 = .ok (.iload_n 3, 1) := by decide +kernel
theorem dX5_ranked_11 : decode cX5_ranked 11 = .ok (.aload_n 0, 1) := by decide +kernel
theorem dX5_ranked_12 : decode cX5_ranked 12 = .ok (.getfield 38, 3) := by decide +kernel
theorem dX5_ranked_15 : decode cX5_ranked 15 = .ok (.invokestatic 94, 3) := by decide +kernel
theorem dX5_ranked_18 : decode cX5_ranked 18 = .ok (.istore 5, 2) := by decide +kernel
theorem dX5_ranked_20 : decode cX5_ranked 20 = .ok (.aload_n 0, 1) := by decide +kernel
theorem dX5_ranked_21 : decode cX5_ranked 21 = .ok (.getfield 11, 3) := by decide +kernel
theorem dX5_ranked_24 : decode cX5_ranked 24 = .ok (.ifCond .ne 16, 3) := by decide +kernel
theorem dX5_ranked_27 : decode cX5_ranked 27 = .ok (.iload 4, 2) := by decide +kernel
theorem dX5_ranked_29 : decode cX5_ranked 29 = .ok (.ifCond .eq 8, 3) := by decide +kernel
theorem dX5_ranked_32 : decode cX5_ranked 32 = .ok (.iload 4, 2) := by decide +kernel
theorem dX5_ranked_34 : decode cX5_ranked 34 = .ok (.goto 5, 3) := by decide +kernel
theorem dX5_ranked_37 : decode cX5_ranked 37 = .ok (.iload 5, 2) := by decide +kernel
theorem dX5_ranked_39 : decode cX5_ranked 39 = .ok (.ireturn, 1) := by decide +kernel
theorem dX5_ranked_40 : decode cX5_ranked 40 = .ok (.aload_n 0, 1) := by decide +kernel
theorem dX5_ranked_41 : decode cX5_ranked 41 = .ok (.getfield 11, 3) := by decide +kernel
theorem dX5_ranked_44 : decode cX5_ranked 44 = .ok (.iconst 2, 1) := by decide +kernel
theorem dX5_ranked_45 : decode cX5_ranked 45 = .ok (.if_icmp .ne 16, 3) := by decide +kernel
theorem dX5_ranked_48 : decode cX5_ranked 48 = .ok (.iload 5, 2) := by decide +kernel
theorem dX5_ranked_50 : decode cX5_ranked 50 = .ok (.ifCond .eq 8, 3) := by decide +kernel
theorem dX5_ranked_53 : decode cX5_ranked 53 = .ok (.iload 5, 2) := by decide +kernel
theorem dX5_ranked_55 : decode cX5_ranked 55 = .ok (.goto 5, 3) := by decide +kernel
theorem dX5_ranked_58 : decode cX5_ranked 58 = .ok (.iload 4, 2) := by decide +kernel
theorem dX5_ranked_60 : decode cX5_ranked 60 = .ok (.ireturn, 1) := by decide +kernel
theorem dX5_ranked_61 : decode cX5_ranked 61 = .ok (.iload_n 1, 1) := by decide +kernel
theorem dX5_ranked_62 : decode cX5_ranked 62 = .ok (.invokestatic 100, 3) := by decide +kernel
theorem dX5_ranked_65 : decode cX5_ranked 65 = .ok (.aload_n 0, 1) := by decide +kernel
theorem dX5_ranked_66 : decode cX5_ranked 66 = .ok (.getfield 32, 3) := by decide +kernel
theorem dX5_ranked_69 : decode cX5_ranked 69 = .ok (.invokestatic 100, 3) := by decide +kernel
theorem dX5_ranked_72 : decode cX5_ranked 72 = .ok (.invokestatic 94, 3) := by decide +kernel
theorem dX5_ranked_75 : decode cX5_ranked 75 = .ok (.istore 6, 2) := by decide +kernel
theorem dX5_ranked_77 : decode cX5_ranked 77 = .ok (.iload 6, 2) := by decide +kernel
theorem dX5_ranked_79 : decode cX5_ranked 79 = .ok (.ifCond .eq 8, 3) := by decide +kernel
theorem dX5_ranked_82 : decode cX5_ranked 82 = .ok (.iload 6, 2) := by decide +kernel
theorem dX5_ranked_84 : decode cX5_ranked 84 = .ok (.goto 5, 3) := by decide +kernel
theorem dX5_ranked_87 : decode cX5_ranked 87 = .ok (.iload 5, 2) := by decide +kernel
theorem dX5_ranked_89 : decode cX5_ranked 89 = .ok (.ireturn, 1) := by decide +kernel
theorem dX6_init_0 : decode cX6_init 0 = .ok (.aload_n 0, 1) := by decide +kernel
theorem dX6_init_1 : decode cX6_init 1 = .ok (.invokespecial 3, 3) := by decide +kernel
theorem dX6_init_4 : decode cX6_init 4 = .ok (.aload_n 0, 1) := by decide +kernel
theorem dX6_init_5 : decode cX6_init 5 = .ok (.iconst 0, 1) := by decide +kernel
theorem dX6_init_6 : decode cX6_init 6 = .ok (.putfield 9, 3) := by decide +kernel
theorem dX6_init_9 : decode cX6_init 9 = .ok (.aload_n 0, 1) := by decide +kernel
theorem dX6_init_10 : decode cX6_init 10 = .ok (.iconst 0, 1) := by decide +kernel
theorem dX6_init_11 : decode cX6_init 11 = .ok (.putfield 15, 3) := by decide +kernel
theorem dX6_init_14 : decode cX6_init 14 = .ok (.aload_n 0, 1) := by decide +kernel
theorem dX6_init_15 : decode cX6_init 15 = .ok (.bipush 100, 2) := by decide +kernel
theorem dX6_init_17 : decode cX6_init 17 = .ok (.putfield 18, 3) := by decide +kernel
theorem dX6_init_20 : decode cX6_init 20 = .ok (.aload_n 0, 1) := by decide +kernel
theorem dX6_init_21 : decode cX6_init 21 = .ok (.iconst 0, 1) := by decide +kernel
theorem dX6_init_22 : decode cX6_init 22 = .ok (.putfield 21, 3) := by decide +kernel
theorem dX6_init_25 : decode cX6_init 25 = .ok (.aload_n 0, 1) := by decide +kernel
theorem dX6_init_26 : decode cX6_init 26 = .ok (.lconst 0, 1) := by decide +kernel
theorem dX6_init_27 : decode cX6_init 27 = .ok (.putfield 24, 3) := by decide +kernel
theorem dX6_init_30 : decode cX6_init 30 = .ok (.aload_n 0, 1) := by decide +kernel
theorem dX6_init_31 : decode cX6_init 31 = .ok (.bipush 16, 2) := by decide +kernel
theorem dX6_init_33 : decode cX6_init 33 = .ok (.newarray .int, 2) := by decide +kernel
theorem dX6_init_35 : decode cX6_init 35 = .ok (.putfield 28, 3) := by decide +kernel
theorem dX6_init_38 : decode cX6_init 38 = .ok (.aload_n 0, 1) := by decide +kernel
theorem dX6_init_39 : decode cX6_init 39 = .ok (.bipush 16, 2) := by decide +kernel
theorem dX6_init_41 : decode cX6_init 41 = .ok (.newarray .int, 2) := by decide +kernel
theorem dX6_init_43 : decode cX6_init 43 = .ok (.putfield 32, 3) := by decide +kernel
theorem dX6_init_46 : decode cX6_init 46 = .ok (.aload_n 0, 1) := by decide +kernel
theorem dX6_init_47 : decode cX6_init 47 = .ok (.bipush 16, 2) := by decide +kernel
theorem dX6_init_49 : decode cX6_init 49 = .ok (.newarray .int, 2) := by decide +kernel
theorem dX6_init_51 : decode cX6_init 51 = .ok (.putfield 35, 3) := by decide +kernel
theorem dX6_init_54 : decode cX6_init 54 = .ok (.aload_n 0, 1) := by decide +kernel
theorem dX6_init_55 : decode cX6_init 55 = .ok (.bipush 16, 2) := by decide +kernel
theorem dX6_init_57 : decode cX6_init 57 = .ok (.newarray .int, 2) := by decide +kernel
theorem dX6_init_59 : decode cX6_init 59 = .ok (.putfield 38, 3) := by decide +kernel
theorem dX6_init_62 : decode cX6_init 62 = .ok (.aload_n 0, 1) := by decide +kernel
theorem dX6_init_63 : decode cX6_init 63 = .ok (.bipush 16, 2) := by decide +kernel
theorem dX6_init_65 : decode cX6_init 65 = .ok (.newarray .long, 2) := by decide +kernel
theorem dX6_init_67 : decode cX6_init 67 = .ok (.putfield 41, 3) := by decide +kernel
theorem dX6_init_70 : decode cX6_init 70 = .ok (.aload_n 0, 1) := by decide +kernel
theorem dX6_init_71 : decode cX6_init 71 = .ok (.bipush 48, 2) := by decide +kernel
theorem dX6_init_73 : decode cX6_init 73 = .ok (.newarray .long, 2) := by decide +kernel
theorem dX6_init_75 : decode cX6_init 75 = .ok (.putfield 45, 3) := by decide +kernel
theorem dX6_init_78 : decode cX6_init 78 = .ok (.aload_n 0, 1) := by decide +kernel
theorem dX6_init_79 : decode cX6_init 79 = .ok (.bipush 48, 2) := by decide +kernel
theorem dX6_init_81 : decode cX6_init 81 = .ok (.newarray .int, 2) := by decide +kernel
theorem dX6_init_83 : decode cX6_init 83 = .ok (.putfield 48, 3) := by decide +kernel
theorem dX6_init_86 : decode cX6_init 86 = .ok (.return_, 1) := by decide +kernel
theorem dX6_copyFrom_0 : decode cX6_copyFrom 0 = .ok (.aload_n 0, 1) := by decide +kernel
theorem dX6_copyFrom_1 : decode cX6_copyFrom 1 = .ok (.aload_n 1, 1) := by decide +kernel
theorem dX6_copyFrom_2 : decode cX6_copyFrom 2 = .ok (.getfield 9, 3) := by decide +kernel
theorem dX6_copyFrom_5 : decode cX6_copyFrom 5 = .ok (.putfield 9, 3) := by decide +kernel
theorem dX6_copyFrom_8 : decode cX6_copyFrom 8 = .ok (.aload_n 0, 1) := by decide +kernel
theorem dX6_copyFrom_9 : decode cX6_copyFrom 9 = .ok (.aload_n 1, 1) := by decide +kernel
theorem dX6_copyFrom_10 : decode cX6_copyFrom 10 = .ok (.getfield 15, 3) := by decide +kernel
theorem dX6_copyFrom_13 : decode cX6_copyFrom 13 = .ok (.putfield 15, 3) := by decide +kernel
theorem dX6_copyFrom_16 : decode cX6_copyFrom 16 = .ok (.aload_n 0, 1) := by decide +kernel
theorem dX6_copyFrom_17 : decode cX6_copyFrom 17 = .ok (.aload_n 1, 1) := by decide +kernel
theorem dX6_copyFrom_18 : decode cX6_copyFrom 18 = .ok (.getfield 18, 3) := by decide +kernel
theorem dX6_copyFrom_21 : decode cX6_copyFrom 21 = .ok (.putfield 18, 3) := by decide +kernel
theorem dX6_copyFrom_24 : decode cX6_copyFrom 24 = .ok (.aload_n 0, 1) := by decide +kernel
theorem dX6_copyFrom_25 : decode cX6_copyFrom 25 = .ok (.aload_n 1, 1) := by decide +kernel
theorem dX6_copyFrom_26 : decode cX6_copyFrom 26 = .ok (.getfield 21, 3) := by decide +kernel
theorem dX6_copyFrom_29 : decode cX6_copyFrom 29 = .ok (.putfield 21, 3) := by decide +kernel
theorem dX6_copyFrom_32 : decode cX6_copyFrom 32 = .ok (.aload_n 0, 1) := by decide +kernel
theorem dX6_copyFrom_33 : decode cX6_copyFrom 33 = .ok (.aload_n 1, 1) := by decide +kernel
theorem dX6_copyFrom_34 : decode cX6_copyFrom 34 = .ok (.getfield 24, 3) := by decide +kernel
theorem dX6_copyFrom_37 : decode cX6_copyFrom 37 = .ok (.putfield 24, 3) := by decide +kernel
theorem dX6_copyFrom_40 : decode cX6_copyFrom 40 = .ok (.aload_n 1, 1) := by decide +kernel
theorem dX6_copyFrom_41 : decode cX6_copyFrom 41 = .ok (.getfield 28, 3) := by decide +kernel
theorem dX6_copyFrom_44 : decode cX6_copyFrom 44 = .ok (.iconst 0, 1) := by decide +kernel
theorem dX6_copyFrom_45 : decode cX6_copyFrom 45 = .ok (.aload_n 0, 1) := by decide +kernel
theorem dX6_copyFrom_46 : decode cX6_copyFrom 46 = .ok (.getfield 28, 3) := by decide +kernel
theorem dX6_copyFrom_49 : decode cX6_copyFrom 49 = .ok (.iconst 0, 1) := by decide +kernel
theorem dX6_copyFrom_50 : decode cX6_copyFrom 50 = .ok (.bipush 16, 2) := by decide +kernel
theorem dX6_copyFrom_52 : decode cX6_copyFrom 52 = .ok (.invokestatic 51, 3) := by decide +kernel
theorem dX6_copyFrom_55 : decode cX6_copyFrom 55 = .ok (.aload_n 1, 1) := by decide +kernel
theorem dX6_copyFrom_56 : decode cX6_copyFrom 56 = .ok (.getfield 32, 3) := by decide +kernel
theorem dX6_copyFrom_59 : decode cX6_copyFrom 59 = .ok (.iconst 0, 1) := by decide +kernel
theorem dX6_copyFrom_60 : decode cX6_copyFrom 60 = .ok (.aload_n 0, 1) := by decide +kernel
theorem dX6_copyFrom_61 : decode cX6_copyFrom 61 = .ok (.getfield 32, 3) := by decide +kernel
theorem dX6_copyFrom_64 : decode cX6_copyFrom 64 = .ok (.iconst 0, 1) := by decide +kernel
theorem dX6_copyFrom_65 : decode cX6_copyFrom 65 = .ok (.bipush 16, 2) := by decide +kernel
theorem dX6_copyFrom_67 : decode cX6_copyFrom 67 = .ok (.invokestatic 51, 3) := by decide +kernel
theorem dX6_copyFrom_70 : decode cX6_copyFrom 70 = .ok (.aload_n 1, 1) := by decide +kernel
theorem dX6_copyFrom_71 : decode cX6_copyFrom 71 = .ok (.getfield 35, 3) := by decide +kernel
theorem dX6_copyFrom_74 : decode cX6_copyFrom 74 = .ok (.iconst 0, 1) := by decide +kernel
theorem dX6_copyFrom_75 : decode cX6_copyFrom 75 = .ok (.aload_n 0, 1) := by decide +kernel
theorem dX6_copyFrom_76 : decode cX6_copyFrom 76 = .ok (.getfield 35, 3) := by decide +kernel
theorem dX6_copyFrom_79 : decode cX6_copyFrom 79 = .ok (.iconst 0, 1) := by decide +kernel
theorem dX6_copyFrom_80 : decode cX6_copyFrom 80 = .ok (.bipush 16, 2) := by decide +kernel
theorem dX6_copyFrom_82 : decode cX6_copyFrom 82 = .ok (.invokestatic 51, 3) := by decide +kernel
theorem dX6_copyFrom_85 : decode cX6_copyFrom 85 = .ok (.aload_n 1, 1) := by decide +kernel
theorem dX6_copyFrom_86 : decode cX6_copyFrom 86 = .ok (.getfield 38, 3) := by decide +kernel
theorem dX6_copyFrom_89 : decode cX6_copyFrom 89 = .ok (.iconst 0, 1) := by decide +kernel
theorem dX6_copyFrom_90 : decode cX6_copyFrom 90 = .ok (.aload_n 0, 1) := by decide +kernel
theorem dX6_copyFrom_91 : decode cX6_copyFrom 91 = .ok (.getfield 38, 3) := by decide +kernel
theorem dX6_copyFrom_94 : decode cX6_copyFrom 94 = .ok (.iconst 0, 1) := by decide +kernel
theorem dX6_copyFrom_95 : decode cX6_copyFrom 95 = .ok (.bipush 16, 2) := by decide +kernel
theorem dX6_copyFrom_97 : decode cX6_copyFrom 97 = .ok (.invokestatic 51, 3) := by decide +kernel
theorem dX6_copyFrom_100 : decode cX6_copyFrom 100 = .ok (.aload_n 1, 1) := by decide +kernel
theorem dX6_copyFrom_101 : decode cX6_copyFrom 101 = .ok (.getfield 41, 3) := by decide +kernel
theorem dX6_copyFrom_104 : decode cX6_copyFrom 104 = .ok (.iconst 0, 1) := by decide +kernel
theorem dX6_copyFrom_105 : decode cX6_copyFrom 105 = .ok (.aload_n 0, 1) := by decide +kernel
theorem dX6_copyFrom_106 : decode cX6_copyFrom 106 = .ok (.getfield 41, 3) := by decide +kernel
theorem dX6_copyFrom_109 : decode cX6_copyFrom 109 = .ok (.iconst 0, 1) := by decide +kernel
theorem dX6_copyFrom_110 : decode cX6_copyFrom 110 = .ok (.bipush 16, 2) := by decide +kernel
theorem dX6_copyFrom_112 : decode cX6_copyFrom 112 = .ok (.invokestatic 51, 3) := by decide +kernel
theorem dX6_copyFrom_115 : decode cX6_copyFrom 115 = .ok (.aload_n 1, 1) := by decide +kernel
theorem dX6_copyFrom_116 : decode cX6_copyFrom 116 = .ok (.getfield 45, 3) := by decide +kernel
theorem dX6_copyFrom_119 : decode cX6_copyFrom 119 = .ok (.iconst 0, 1) := by decide +kernel
theorem dX6_copyFrom_120 : decode cX6_copyFrom 120 = .ok (.aload_n 0, 1) := by decide +kernel
theorem dX6_copyFrom_121 : decode cX6_copyFrom 121 = .ok (.getfield 45, 3) := by decide +kernel
theorem dX6_copyFrom_124 : decode cX6_copyFrom 124 = .ok (.iconst 0, 1) := by decide +kernel
theorem dX6_copyFrom_125 : decode cX6_copyFrom 125 = .ok (.bipush 48, 2) := by decide +kernel
theorem dX6_copyFrom_127 : decode cX6_copyFrom 127 = .ok (.invokestatic 51, 3) := by decide +kernel
theorem dX6_copyFrom_130 : decode cX6_copyFrom 130 = .ok (.aload_n 1, 1) := by decide +kernel
theorem dX6_copyFrom_131 : decode cX6_copyFrom 131 = .ok (.getfield 48, 3) := by decide +kernel
theorem dX6_copyFrom_134 : decode cX6_copyFrom 134 = .ok (.iconst 0, 1) := by decide +kernel
theorem dX6_copyFrom_135 : decode cX6_copyFrom 135 = .ok (.aload_n 0, 1) := by decide +kernel
theorem dX6_copyFrom_136 : decode cX6_copyFrom 136 = .ok (.getfield 48, 3) := by decide +kernel
theorem dX6_copyFrom_139 : decode cX6_copyFrom 139 = .ok (.iconst 0, 1) := by decide +kernel
theorem dX6_copyFrom_140 : decode cX6_copyFrom 140 = .ok (.bipush 48, 2) := by decide +kernel
theorem dX6_copyFrom_142 : decode cX6_copyFrom 142 = .ok (.invokestatic 51, 3) := by decide +kernel
theorem dX6_copyFrom_145 : decode cX6_copyFrom 145 = .ok (.return_, 1) := by decide +kernel
theorem dX6_clear_0 : decode cX6_clear 0 = .ok (.aload_n 0, 1) := by decide +kernel
theorem dX6_clear_1 : decode cX6_clear 1 = .ok (.iconst 0, 1) := by decide +kernel
theorem dX6_clear_2 : decode cX6_clear 2 = .ok (.putfield 9, 3) := by decide +kernel
theorem dX6_clear_5 : decode cX6_clear 5 = .ok (.aload_n 0, 1) := by decide +kernel
theorem dX6_clear_6 : decode cX6_clear 6 = .ok (.iconst 0, 1) := by decide +kernel
theorem dX6_clear_7 : decode cX6_clear 7 = .ok (.putfield 15, 3) := by decide +kernel
theorem dX6_clear_10 : decode cX6_clear 10 = .ok (.aload_n 0, 1) := by decide +kernel
theorem dX6_clear_11 : decode cX6_clear 11 = .ok (.iconst 0, 1) := by decide +kernel
theorem dX6_clear_12 : decode cX6_clear 12 = .ok (.putfield 21, 3) := by decide +kernel
theorem dX6_clear_15 : decode cX6_clear 15 = .ok (.aload_n 0, 1) := by decide +kernel
theorem dX6_clear_16 : decode cX6_clear 16 = .ok (.lconst 0, 1) := by decide +kernel
theorem dX6_clear_17 : decode cX6_clear 17 = .ok (.putfield 24, 3) := by decide +kernel
theorem dX6_clear_20 : decode cX6_clear 20 = .ok (.return_, 1) := by decide +kernel
theorem dX6_spelledWith_0 : decode cX6_spelledWith 0 = .ok (.lload_n 0, 1) := by decide +kernel
theorem dX6_spelledWith_1 : decode cX6_spelledWith 1 = .ok (.iload_n 3, 1) := by decide +kernel
theorem dX6_spelledWith_2 : decode cX6_spelledWith 2 = .ok (.bipush 96, 2) := by decide +kernel
theorem dX6_spelledWith_4 : decode cX6_spelledWith 4 = .ok (.isub, 1) := by decide +kernel
theorem dX6_spelledWith_5 : decode cX6_spelledWith 5 = .ok (.i2l, 1) := by decide +kernel
theorem dX6_spelledWith_6 : decode cX6_spelledWith 6 = .ok (.iconst 5, 1) := by decide +kernel
theorem dX6_spelledWith_7 : decode cX6_spelledWith 7 = .ok (.iload_n 2, 1) := by decide +kernel
theorem dX6_spelledWith_8 : decode cX6_spelledWith 8 = .ok (.imul, 1) := by decide +kernel
theorem dX6_spelledWith_9 : decode cX6_spelledWith 9 = .ok (.lshl, 1) := by decide +kernel
theorem dX6_spelledWith_10 : decode cX6_spelledWith 10 = .ok (.lor, 1) := by decide +kernel
theorem dX6_spelledWith_11 : decode cX6_spelledWith 11 = .ok (.lreturn, 1) := by decide +kernel
theorem dX6_letterAt_0 : decode cX6_letterAt 0 = .ok (.aload_n 0, 1) := by decide +kernel
theorem dX6_letterAt_1 : decode cX6_letterAt 1 = .ok (.iload_n 1, 1) := by decide +kernel
theorem dX6_letterAt_2 : decode cX6_letterAt 2 = .ok (.iload_n 2, 1) := by decide +kernel
theorem dX6_letterAt_3 : decode cX6_letterAt 3 = .ok (.invokevirtual 57, 3) := by decide +kernel
theorem dX6_letterAt_6 : decode cX6_letterAt 6 = .ok (.bipush 96, 2) := by decide +kernel
theorem dX6_letterAt_8 : decode cX6_letterAt 8 = .ok (.iadd, 1) := by decide +kernel
theorem dX6_letterAt_9 : decode cX6_letterAt 9 = .ok (.ireturn, 1) := by decide +kernel
theorem dX6_codeAt_0 : decode cX6_codeAt 0 = .ok (.aload_n 0, 1) := by decide +kernel
theorem dX6_codeAt_1 : decode cX6_codeAt 1 = .ok (.getfield 45, 3) := by decide +kernel
theorem dX6_codeAt_4 : decode cX6_codeAt 4 = .ok (.iload_n 1, 1) := by decide +kernel
theorem dX6_codeAt_5 : decode cX6_codeAt 5 = .ok (.laload, 1) := by decide +kernel
theorem dX6_codeAt_6 : decode cX6_codeAt 6 = .ok (.iconst 5, 1) := by decide +kernel
theorem dX6_codeAt_7 : decode cX6_codeAt 7 = .ok (.iload_n 2, 1) := by decide +kernel
theorem dX6_codeAt_8 : decode cX6_codeAt 8 = .ok (.imul, 1) := by decide +kernel
theorem dX6_codeAt_9 : decode cX6_codeAt 9 = .ok (.lushr, 1) := by decide +kernel
theorem dX6_codeAt_10 : decode cX6_codeAt 10 = .ok (.l2i, 1) := by decide +kernel
theorem dX6_codeAt_11 : decode cX6_codeAt 11 = .ok (.bipush 31, 2) := by decide +kernel
theorem dX6_codeAt_13 : decode cX6_codeAt 13 = .ok (.iand, 1) := by decide +kernel
theorem dX6_codeAt_14 : decode cX6_codeAt 14 = .ok (.ireturn, 1) := by decide +kernel
theorem dX6_lettersOf_0 : decode cX6_lettersOf 0 = .ok (.iconst 0, 1) := by decide +kernel
theorem dX6_lettersOf_1 : decode cX6_lettersOf 1 = .ok (.istore_n 2, 1) := by decide +kernel
theorem dX6_lettersOf_2 : decode cX6_lettersOf 2 = .ok (.iconst 0, 1) := by decide +kernel
theorem dX6_lettersOf_3 : decode cX6_lettersOf 3 = .ok (.istore_n 3, 1) := by decide +kernel
theorem dX6_lettersOf_4 : decode cX6_lettersOf 4 = .ok (.iload_n 3, 1) := by decide +kernel
theorem dX6_lettersOf_5 : decode cX6_lettersOf 5 = .ok (.bipush 10, 2) := by decide +kernel
theorem dX6_lettersOf_7 : decode cX6_lettersOf 7 = .ok (.if_icmp .ge 21, 3) := by decide +kernel
theorem dX6_lettersOf_10 : decode cX6_lettersOf 10 = .ok (.aload_n 0, 1) := by decide +kernel
theorem dX6_lettersOf_11 : decode cX6_lettersOf 11 = .ok (.iload_n 1, 1) := by decide +kernel
theorem dX6_lettersOf_12 : decode cX6_lettersOf 12 = .ok (.iload_n 3, 1) := by decide +kernel
theorem dX6_lettersOf_13 : decode cX6_lettersOf 13 = .ok (.invokevirtual 57, 3) := by decide +kernel
theorem dX6_lettersOf_16 : decode cX6_lettersOf 16 = .ok (.ifCond .eq 6, 3) := by decide +kernel
theorem dX6_lettersOf_19 : decode cX6_lettersOf 19 = .ok (.iinc 2 1, 3) := by decide +kernel
theorem dX6_lettersOf_22 : decode cX6_lettersOf 22 = .ok (.iinc 3 1, 3) := by decide +kernel
theorem dX6_lettersOf_25 : decode cX6_lettersOf 25 = .ok (.goto (-21), 3) := by decide +kernel
theorem dX6_lettersOf_28 : decode cX6_lettersOf 28 = .ok (.iload_n 2, 1) := by decide +kernel
theorem dX6_lettersOf_29 : decode cX6_lettersOf 29 = .ok (.ireturn, 1) := by decide +kernel
theorem dX6_wordSpelled_0 : decode cX6_wordSpelled 0 = .ok (.iconst 0, 1) := by decide +kernel
theorem dX6_wordSpelled_1 : decode cX6_wordSpelled 1 = .ok (.istore_n 3, 1) := by decide +kernel
theorem dX6_wordSpelled_2 : decode cX6_wordSpelled 2 = .ok (.iload_n 3, 1) := by decide +kernel
theorem dX6_wordSpelled_3 : decode cX6_wordSpelled 3 = .ok (.aload_n 0, 1) := by decide +kernel
theorem dX6_wordSpelled_4 : decode cX6_wordSpelled 4 = .ok (.getfield 15, 3) := by decide +kernel
theorem dX6_wordSpelled_7 : decode cX6_wordSpelled 7 = .ok (.if_icmp .ge 22, 3) := by decide +kernel
theorem dX6_wordSpelled_10 : decode cX6_wordSpelled 10 = .ok (.aload_n 0, 1) := by decide +kernel
theorem dX6_wordSpelled_11 : decode cX6_wordSpelled 11 = .ok (.getfield 45, 3) := by decide +kernel
theorem dX6_wordSpelled_14 : decode cX6_wordSpelled 14 = .ok (.iload_n 3, 1) := by decide +kernel
theorem dX6_wordSpelled_15 : decode cX6_wordSpelled 15 = .ok (.laload, 1) := by decide +kernel
theorem dX6_wordSpelled_16 : decode cX6_wordSpelled 16 = .ok (.lload_n 1, 1) := by decide +kernel
theorem dX6_wordSpelled_17 : decode cX6_wordSpelled 17 = .ok (.lcmp, 1) := by decide +kernel
theorem dX6_wordSpelled_18 : decode cX6_wordSpelled 18 = .ok (.ifCond .ne 5, 3) := by decide +kernel
theorem dX6_wordSpelled_21 : decode cX6_wordSpelled 21 = .ok (.iload_n 3, 1) := by decide +kernel
theorem dX6_wordSpelled_22 : decode cX6_wordSpelled 22 = .ok (.ireturn, 1) := by decide +kernel
theorem dX6_wordSpelled_23 : decode cX6_wordSpelled 23 = .ok (.iinc 3 1, 3) := by decide +kernel
theorem dX6_wordSpelled_26 : decode cX6_wordSpelled 26 = .ok (.goto (-24), 3) := by decide +kernel
theorem dX6_wordSpelled_29 : decode cX6_wordSpelled 29 = .ok (.iconst (-1), 1) := by decide +kernel
theorem dX6_wordSpelled_30 : decode cX6_wordSpelled 30 = .ok (.ireturn, 1) := by decide +kernel
theorem dX6_leans_0 : decode cX6_leans 0 = .ok (.aload_n 0, 1) := by decide +kernel
theorem dX6_leans_1 : decode cX6_leans 1 = .ok (.getfield 24, 3) := by decide +kernel
theorem dX6_leans_4 : decode cX6_leans 4 = .ok (.iload_n 1, 1) := by decide +kernel
theorem dX6_leans_5 : decode cX6_leans 5 = .ok (.lushr, 1) := by decide +kernel
theorem dX6_leans_6 : decode cX6_leans 6 = .ok (.lconst 1, 1) := by decide +kernel
theorem dX6_leans_7 : decode cX6_leans 7 = .ok (.land, 1) := by decide +kernel
theorem dX6_leans_8 : decode cX6_leans 8 = .ok (.lconst 0, 1) := by decide +kernel
theorem dX6_leans_9 : decode cX6_leans 9 = .ok (.lcmp, 1) := by decide +kernel
theorem dX6_leans_10 : decode cX6_leans 10 = .ok (.ifCond .eq 7, 3) := by decide +kernel
theorem dX6_leans_13 : decode cX6_leans 13 = .ok (.iconst 1, 1) := by decide +kernel
theorem dX6_leans_14 : decode cX6_leans 14 = .ok (.goto 4, 3) := by decide +kernel
theorem dX6_leans_17 : decode cX6_leans 17 = .ok (.iconst 0, 1) := by decide +kernel
theorem dX6_leans_18 : decode cX6_leans 18 = .ok (.ireturn, 1) := by decide +kernel
theorem dX6_sentencesWith_0 : decode cX6_sentencesWith 0 = .ok (.iconst 0, 1) := by decide +kernel
theorem dX6_sentencesWith_1 : decode cX6_sentencesWith 1 = .ok (.istore_n 2, 1) := by decide +kernel
theorem dX6_sentencesWith_2 : decode cX6_sentencesWith 2 = .ok (.iconst 0, 1) := by decide +kernel
theorem dX6_sentencesWith_3 : decode cX6_sentencesWith 3 = .ok (.istore_n 3, 1) := by decide +kernel
theorem dX6_sentencesWith_4 : decode cX6_sentencesWith 4 = .ok (.iload_n 3, 1) := by decide +kernel
theorem dX6_sentencesWith_5 : decode cX6_sentencesWith 5 = .ok (.aload_n 0, 1) := by decide +kernel
theorem dX6_sentencesWith_6 : decode cX6_sentencesWith 6 = .ok (.getfield 9, 3) := by decide +kernel
theorem dX6_sentencesWith_9 : decode cX6_sentencesWith 9 = .ok (.if_icmp .ge 23, 3) := by decide +kernel
theorem dX6_sentencesWith_12 : decode cX6_sentencesWith 12 = .ok (.iload_n 2, 1) := by decide +kernel
theorem dX6_sentencesWith_13 : decode cX6_sentencesWith 13 = .ok (.aload_n 0, 1) := by decide +kernel
theorem dX6_sentencesWith_14 : decode cX6_sentencesWith 14 = .ok (.getfield 41, 3) := by decide +kernel
theorem dX6_sentencesWith_17 : decode cX6_sentencesWith 17 = .ok (.iload_n 3, 1) := by decide +kernel
theorem dX6_sentencesWith_18 : decode cX6_sentencesWith 18 = .ok (.laload, 1) := by decide +kernel
theorem dX6_sentencesWith_19 : decode cX6_sentencesWith 19 = .ok (.iload_n 1, 1) := by decide +kernel
theorem dX6_sentencesWith_20 : decode cX6_sentencesWith 20 = .ok (.lushr, 1) := by decide +kernel
theorem dX6_sentencesWith_21 : decode cX6_sentencesWith 21 = .ok (.l2i, 1) := by decide +kernel
theorem dX6_sentencesWith_22 : decode cX6_sentencesWith 22 = .ok (.iconst 1, 1) := by decide +kernel
theorem dX6_sentencesWith_23 : decode cX6_sentencesWith 23 = .ok (.iand, 1) := by decide +kernel
theorem dX6_sentencesWith_24 : decode cX6_sentencesWith 24 = .ok (.iadd, 1) := by decide +kernel
theorem dX6_sentencesWith_25 : decode cX6_sentencesWith 25 = .ok (.istore_n 2, 1) := by decide +kernel
theorem dX6_sentencesWith_26 : decode cX6_sentencesWith 26 = .ok (.iinc 3 1, 3) := by decide +kernel
theorem dX6_sentencesWith_29 : decode cX6_sentencesWith 29 = .ok (.goto (-25), 3) := by decide +kernel
theorem dX6_sentencesWith_32 : decode cX6_sentencesWith 32 = .ok (.iload_n 2, 1) := by decide +kernel
theorem dX6_sentencesWith_33 : decode cX6_sentencesWith 33 = .ok (.ireturn, 1) := by decide +kernel
theorem dX6_everySentence_0 : decode cX6_everySentence 0 = .ok (.iconst 1, 1) := by decide +kernel
theorem dX6_everySentence_1 : decode cX6_everySentence 1 = .ok (.aload_n 0, 1) := by decide +kernel
theorem dX6_everySentence_2 : decode cX6_everySentence 2 = .ok (.getfield 9, 3) := by decide +kernel
theorem dX6_everySentence_5 : decode cX6_everySentence 5 = .ok (.ishl, 1) := by decide +kernel
theorem dX6_everySentence_6 : decode cX6_everySentence 6 = .ok (.iconst 1, 1) := by decide +kernel
theorem dX6_everySentence_7 : decode cX6_everySentence 7 = .ok (.isub, 1) := by decide +kernel
theorem dX6_everySentence_8 : decode cX6_everySentence 8 = .ok (.ireturn, 1) := by decide +kernel
theorem dX6_linkChains_0 : decode cX6_linkChains 0 = .ok (.iconst 0, 1) := by decide +kernel
theorem dX6_linkChains_1 : decode cX6_linkChains 1 = .ok (.istore_n 1, 1) := by decide +kernel
theorem dX6_linkChains_2 : decode cX6_linkChains 2 = .ok (.iconst 0, 1) := by decide +kernel
theorem dX6_linkChains_3 : decode cX6_linkChains 3 = .ok (.istore_n 2, 1) := by decide +kernel
theorem dX6_linkChains_4 : decode cX6_linkChains 4 = .ok (.iload_n 2, 1) := by decide +kernel
theorem dX6_linkChains_5 : decode cX6_linkChains 5 = .ok (.aload_n 0, 1) := by decide +kernel
theorem dX6_linkChains_6 : decode cX6_linkChains 6 = .ok (.getfield 9, 3) := by decide +kernel
theorem dX6_linkChains_9 : decode cX6_linkChains 9 = .ok (.if_icmp .ge 46, 3) := by decide +kernel
theorem dX6_linkChains_12 : decode cX6_linkChains 12 = .ok (.aload_n 0, 1) := by decide +kernel
theorem dX6_linkChains_13 : decode cX6_linkChains 13 = .ok (.getfield 38, 3) := by decide +kernel
theorem dX6_linkChains_16 : decode cX6_linkChains 16 = .ok (.iload_n 2, 1) := by decide +kernel
theorem dX6_linkChains_17 : decode cX6_linkChains 17 = .ok (.aload_n 0, 1) := by decide +kernel
theorem dX6_linkChains_18 : decode cX6_linkChains 18 = .ok (.aload_n 0, 1) := by decide +kernel
theorem dX6_linkChains_19 : decode cX6_linkChains 19 = .ok (.getfield 35, 3) := by decide +kernel
theorem dX6_linkChains_22 : decode cX6_linkChains 22 = .ok (.iload_n 2, 1) := by decide +kernel
theorem dX6_linkChains_23 : decode cX6_linkChains 23 = .ok (.iaload, 1) := by decide +kernel
theorem dX6_linkChains_24 : decode cX6_linkChains 24 = .ok (.invokevirtual 61, 3) := by decide +kernel
theorem dX6_linkChains_27 : decode cX6_linkChains 27 = .ok (.ifCond .eq 11, 3) := by decide +kernel
theorem dX6_linkChains_30 : decode cX6_linkChains 30 = .ok (.iload_n 1, 1) := by decide +kernel
theorem dX6_linkChains_31 : decode cX6_linkChains 31 = .ok (.iconst 1, 1) := by decide +kernel
theorem dX6_linkChains_32 : decode cX6_linkChains 32 = .ok (.iload_n 2, 1) := by decide +kernel
theorem dX6_linkChains_33 : decode cX6_linkChains 33 = .ok (.ishl, 1) := by decide +kernel
theorem dX6_linkChains_34 : decode cX6_linkChains 34 = .ok (.ior, 1) := by decide +kernel
theorem dX6_linkChains_35 : decode cX6_linkChains 35 = .ok (.goto 6, 3) := by decide +kernel
theorem dX6_linkChains_38 : decode cX6_linkChains 38 = .ok (.iconst 1, 1) := by decide +kernel
theorem dX6_linkChains_39 : decode cX6_linkChains 39 = .ok (.iload_n 2, 1) := by decide +kernel
theorem dX6_linkChains_40 : decode cX6_linkChains 40 = .ok (.ishl, 1) := by decide +kernel
theorem dX6_linkChains_41 : decode cX6_linkChains 41 = .ok (.iastore, 1) := by decide +kernel
theorem dX6_linkChains_42 : decode cX6_linkChains 42 = .ok (.aload_n 0, 1) := by decide +kernel
theorem dX6_linkChains_43 : decode cX6_linkChains 43 = .ok (.getfield 38, 3) := by decide +kernel
theorem dX6_linkChains_46 : decode cX6_linkChains 46 = .ok (.iload_n 2, 1) := by decide +kernel
theorem dX6_linkChains_47 : decode cX6_linkChains 47 = .ok (.iaload, 1) := by decide +kernel
theorem dX6_linkChains_48 : decode cX6_linkChains 48 = .ok (.istore_n 1, 1) := by decide +kernel
theorem dX6_linkChains_49 : decode cX6_linkChains 49 = .ok (.iinc 2 1, 3) := by decide +kernel
theorem dX6_linkChains_52 : decode cX6_linkChains 52 = .ok (.goto (-48), 3) := by decide +kernel
theorem dX6_linkChains_55 : decode cX6_linkChains 55 = .ok (.return_, 1) := by decide +kernel
theorem dX6_allThatNeed_0 : decode cX6_allThatNeed 0 = .ok (.iconst 0, 1) := by decide +kernel
theorem dX6_allThatNeed_1 : decode cX6_allThatNeed 1 = .ok (.istore_n 2, 1) := by decide +kernel
theorem dX6_allThatNeed_2 : decode cX6_allThatNeed 2 = .ok (.iconst 0, 1) := by decide +kernel
theorem dX6_allThatNeed_3 : decode cX6_allThatNeed 3 = .ok (.istore_n 3, 1) := by decide +kernel
theorem dX6_allThatNeed_4 : decode cX6_allThatNeed 4 = .ok (.iload_n 3, 1) := by decide +kernel
theorem dX6_allThatNeed_5 : decode cX6_allThatNeed 5 = .ok (.aload_n 0, 1) := by decide +kernel
theorem dX6_allThatNeed_6 : decode cX6_allThatNeed 6 = .ok (.getfield 9, 3) := by decide +kernel
theorem dX6_allThatNeed_9 : decode cX6_allThatNeed 9 = .ok (.if_icmp .ge 28, 3) := by decide +kernel
theorem dX6_allThatNeed_12 : decode cX6_allThatNeed 12 = .ok (.iload_n 1, 1) := by decide +kernel
theorem dX6_allThatNeed_13 : decode cX6_allThatNeed 13 = .ok (.aload_n 0, 1) := by decide +kernel
theorem dX6_allThatNeed_14 : decode cX6_allThatNeed 14 = .ok (.getfield 38, 3) := by decide +kernel
theorem dX6_allThatNeed_17 : decode cX6_allThatNeed 17 = .ok (.iload_n 3, 1) := by decide +kernel
theorem dX6_allThatNeed_18 : decode cX6_allThatNeed 18 = .ok (.iaload, 1) := by decide +kernel
theorem dX6_allThatNeed_19 : decode cX6_allThatNeed 19 = .ok (.invokestatic 65, 3) := by decide +kernel
theorem dX6_allThatNeed_22 : decode cX6_allThatNeed 22 = .ok (.ifCond .eq 9, 3) := by decide +kernel
theorem dX6_allThatNeed_25 : decode cX6_allThatNeed 25 = .ok (.iload_n 2, 1) := by decide +kernel
theorem dX6_allThatNeed_26 : decode cX6_allThatNeed 26 = .ok (.iconst 1, 1) := by decide +kernel
theorem dX6_allThatNeed_27 : decode cX6_allThatNeed 27 = .ok (.iload_n 3, 1) := by decide +kernel
theorem dX6_allThatNeed_28 : decode cX6_allThatNeed 28 = .ok (.ishl, 1) := by decide +kernel
theorem dX6_allThatNeed_29 : decode cX6_allThatNeed 29 = .ok (.ior, 1) := by decide +kernel
theorem dX6_allThatNeed_30 : decode cX6_allThatNeed 30 = .ok (.istore_n 2, 1) := by decide +kernel
theorem dX6_allThatNeed_31 : decode cX6_allThatNeed 31 = .ok (.iinc 3 1, 3) := by decide +kernel
theorem dX6_allThatNeed_34 : decode cX6_allThatNeed 34 = .ok (.goto (-30), 3) := by decide +kernel
theorem dX6_allThatNeed_37 : decode cX6_allThatNeed 37 = .ok (.iload_n 2, 1) := by decide +kernel
theorem dX6_allThatNeed_38 : decode cX6_allThatNeed 38 = .ok (.ireturn, 1) := by decide +kernel
theorem dX6_isWhole_0 : decode cX6_isWhole 0 = .ok (.iconst 0, 1) := by decide +kernel
theorem dX6_isWhole_1 : decode cX6_isWhole 1 = .ok (.istore_n 2, 1) := by decide +kernel
theorem dX6_isWhole_2 : decode cX6_isWhole 2 = .ok (.iload_n 2, 1) := by decide +kernel
theorem dX6_isWhole_3 : decode cX6_isWhole 3 = .ok (.aload_n 0, 1) := by decide +kernel
theorem dX6_isWhole_4 : decode cX6_isWhole 4 = .ok (.getfield 9, 3) := by decide +kernel
theorem dX6_isWhole_7 : decode cX6_isWhole 7 = .ok (.if_icmp .ge 32, 3) := by decide +kernel
theorem dX6_isWhole_10 : decode cX6_isWhole 10 = .ok (.iload_n 2, 1) := by decide +kernel
theorem dX6_isWhole_11 : decode cX6_isWhole 11 = .ok (.iload_n 1, 1) := by decide +kernel
theorem dX6_isWhole_12 : decode cX6_isWhole 12 = .ok (.invokestatic 65, 3) := by decide +kernel
theorem dX6_isWhole_15 : decode cX6_isWhole 15 = .ok (.ifCond .eq 18, 3) := by decide +kernel
theorem dX6_isWhole_18 : decode cX6_isWhole 18 = .ok (.aload_n 0, 1) := by decide +kernel
theorem dX6_isWhole_19 : decode cX6_isWhole 19 = .ok (.getfield 38, 3) := by decide +kernel
theorem dX6_isWhole_22 : decode cX6_isWhole 22 = .ok (.iload_n 2, 1) := by decide +kernel
theorem dX6_isWhole_23 : decode cX6_isWhole 23 = .ok (.iaload, 1) := by decide +kernel
theorem dX6_isWhole_24 : decode cX6_isWhole 24 = .ok (.iload_n 1, 1) := by decide +kernel
theorem dX6_isWhole_25 : decode cX6_isWhole 25 = .ok (.iconst (-1), 1) := by decide +kernel
theorem dX6_isWhole_26 : decode cX6_isWhole 26 = .ok (.ixor, 1) := by decide +kernel
theorem dX6_isWhole_27 : decode cX6_isWhole 27 = .ok (.iand, 1) := by decide +kernel
theorem dX6_isWhole_28 : decode cX6_isWhole 28 = .ok (.ifCond .eq 5, 3) := by decide +kernel
theorem dX6_isWhole_31 : decode cX6_isWhole 31 = .ok (.iconst 0, 1) := by decide +kernel
theorem dX6_isWhole_32 : decode cX6_isWhole 32 = .ok (.ireturn, 1) := by decide +kernel
theorem dX6_isWhole_33 : decode cX6_isWhole 33 = .ok (.iinc 2 1, 3) := by decide +kernel
theorem dX6_isWhole_36 : decode cX6_isWhole 36 = .ok (.goto (-34), 3) := by decide +kernel
theorem dX6_isWhole_39 : decode cX6_isWhole 39 = .ok (.iconst 1, 1) := by decide +kernel
theorem dX6_isWhole_40 : decode cX6_isWhole 40 = .ok (.ireturn, 1) := by decide +kernel
theorem dX6_bagOf_0 : decode cX6_bagOf 0 = .ok (.lconst 0, 1) := by decide +kernel
theorem dX6_bagOf_1 : decode cX6_bagOf 1 = .ok (.lstore_n 2, 1) := by decide +kernel
theorem dX6_bagOf_2 : decode cX6_bagOf 2 = .ok (.iconst 0, 1) := by decide +kernel
theorem dX6_bagOf_3 : decode cX6_bagOf 3 = .ok (.istore 4, 2) := by decide +kernel
theorem dX6_bagOf_5 : decode cX6_bagOf 5 = .ok (.iload 4, 2) := by decide +kernel
theorem dX6_bagOf_7 : decode cX6_bagOf 7 = .ok (.aload_n 0, 1) := by decide +kernel
theorem dX6_bagOf_8 : decode cX6_bagOf 8 = .ok (.getfield 9, 3) := by decide +kernel
theorem dX6_bagOf_11 : decode cX6_bagOf 11 = .ok (.if_icmp .ge 28, 3) := by decide +kernel
theorem dX6_bagOf_14 : decode cX6_bagOf 14 = .ok (.iload 4, 2) := by decide +kernel
theorem dX6_bagOf_16 : decode cX6_bagOf 16 = .ok (.iload_n 1, 1) := by decide +kernel
theorem dX6_bagOf_17 : decode cX6_bagOf 17 = .ok (.invokestatic 65, 3) := by decide +kernel
theorem dX6_bagOf_20 : decode cX6_bagOf 20 = .ok (.ifCond .eq 13, 3) := by decide +kernel
theorem dX6_bagOf_23 : decode cX6_bagOf 23 = .ok (.lload_n 2, 1) := by decide +kernel
theorem dX6_bagOf_24 : decode cX6_bagOf 24 = .ok (.aload_n 0, 1) := by decide +kernel
theorem dX6_bagOf_25 : decode cX6_bagOf 25 = .ok (.getfield 41, 3) := by decide +kernel
theorem dX6_bagOf_28 : decode cX6_bagOf 28 = .ok (.iload 4, 2) := by decide +kernel
theorem dX6_bagOf_30 : decode cX6_bagOf 30 = .ok (.laload, 1) := by decide +kernel
theorem dX6_bagOf_31 : decode cX6_bagOf 31 = .ok (.lor, 1) := by decide +kernel
theorem dX6_bagOf_32 : decode cX6_bagOf 32 = .ok (.lstore_n 2, 1) := by decide +kernel
theorem dX6_bagOf_33 : decode cX6_bagOf 33 = .ok (.iinc 4 1, 3) := by decide +kernel
theorem dX6_bagOf_36 : decode cX6_bagOf 36 = .ok (.goto (-31), 3) := by decide +kernel
theorem dX6_bagOf_39 : decode cX6_bagOf 39 = .ok (.lload_n 2, 1) := by decide +kernel
theorem dX6_bagOf_40 : decode cX6_bagOf 40 = .ok (.lreturn, 1) := by decide +kernel
theorem dX6_weightOf_0 : decode cX6_weightOf 0 = .ok (.iconst 0, 1) := by decide +kernel
theorem dX6_weightOf_1 : decode cX6_weightOf 1 = .ok (.istore_n 3, 1) := by decide +kernel
theorem dX6_weightOf_2 : decode cX6_weightOf 2 = .ok (.lload_n 1, 1) := by decide +kernel
theorem dX6_weightOf_3 : decode cX6_weightOf 3 = .ok (.invokestatic 69, 3) := by decide +kernel
theorem dX6_weightOf_6 : decode cX6_weightOf 6 = .ok (.istore 4, 2) := by decide +kernel
theorem dX6_weightOf_8 : decode cX6_weightOf 8 = .ok (.iload 4, 2) := by decide +kernel
theorem dX6_weightOf_10 : decode cX6_weightOf 10 = .ok (.aload_n 0, 1) := by decide +kernel
theorem dX6_weightOf_11 : decode cX6_weightOf 11 = .ok (.getfield 15, 3) := by decide +kernel
theorem dX6_weightOf_14 : decode cX6_weightOf 14 = .ok (.if_icmp .ge 39, 3) := by decide +kernel
theorem dX6_weightOf_17 : decode cX6_weightOf 17 = .ok (.lload_n 1, 1) := by decide +kernel
theorem dX6_weightOf_18 : decode cX6_weightOf 18 = .ok (.iload 4, 2) := by decide +kernel
theorem dX6_weightOf_20 : decode cX6_weightOf 20 = .ok (.lushr, 1) := by decide +kernel
theorem dX6_weightOf_21 : decode cX6_weightOf 21 = .ok (.lconst 0, 1) := by decide +kernel
theorem dX6_weightOf_22 : decode cX6_weightOf 22 = .ok (.lcmp, 1) := by decide +kernel
theorem dX6_weightOf_23 : decode cX6_weightOf 23 = .ok (.ifCond .eq 30, 3) := by decide +kernel
theorem dX6_weightOf_26 : decode cX6_weightOf 26 = .ok (.lload_n 1, 1) := by decide +kernel
theorem dX6_weightOf_27 : decode cX6_weightOf 27 = .ok (.iload 4, 2) := by decide +kernel
theorem dX6_weightOf_29 : decode cX6_weightOf 29 = .ok (.lushr, 1) := by decide +kernel
theorem dX6_weightOf_30 : decode cX6_weightOf 30 = .ok (.lconst 1, 1) := by decide +kernel
theorem dX6_weightOf_31 : decode cX6_weightOf 31 = .ok (.land, 1) := by decide +kernel
theorem dX6_weightOf_32 : decode cX6_weightOf 32 = .ok (.lconst 0, 1) := by decide +kernel
theorem dX6_weightOf_33 : decode cX6_weightOf 33 = .ok (.lcmp, 1) := by decide +kernel
theorem dX6_weightOf_34 : decode cX6_weightOf 34 = .ok (.ifCond .eq 13, 3) := by decide +kernel
theorem dX6_weightOf_37 : decode cX6_weightOf 37 = .ok (.iload_n 3, 1) := by decide +kernel
theorem dX6_weightOf_38 : decode cX6_weightOf 38 = .ok (.aload_n 0, 1) := by decide +kernel
theorem dX6_weightOf_39 : decode cX6_weightOf 39 = .ok (.getfield 48, 3) := by decide +kernel
theorem dX6_weightOf_42 : decode cX6_weightOf 42 = .ok (.iload 4, 2) := by decide +kernel
theorem dX6_weightOf_44 : decode cX6_weightOf 44 = .ok (.iaload, 1) := by decide +kernel
theorem dX6_weightOf_45 : decode cX6_weightOf 45 = .ok (.iadd, 1) := by decide +kernel
theorem dX6_weightOf_46 : decode cX6_weightOf 46 = .ok (.istore_n 3, 1) := by decide +kernel
theorem dX6_weightOf_47 : decode cX6_weightOf 47 = .ok (.iinc 4 1, 3) := by decide +kernel
theorem dX6_weightOf_50 : decode cX6_weightOf 50 = .ok (.goto (-42), 3) := by decide +kernel
theorem dX6_weightOf_53 : decode cX6_weightOf 53 = .ok (.iload_n 3, 1) := by decide +kernel
theorem dX6_weightOf_54 : decode cX6_weightOf 54 = .ok (.ireturn, 1) := by decide +kernel
theorem dX6_coveredBy_0 : decode cX6_coveredBy 0 = .ok (.aload_n 0, 1) := by decide +kernel
theorem dX6_coveredBy_1 : decode cX6_coveredBy 1 = .ok (.aload_n 0, 1) := by decide +kernel
theorem dX6_coveredBy_2 : decode cX6_coveredBy 2 = .ok (.iload_n 1, 1) := by decide +kernel
theorem dX6_coveredBy_3 : decode cX6_coveredBy 3 = .ok (.invokevirtual 75, 3) := by decide +kernel
theorem dX6_coveredBy_6 : decode cX6_coveredBy 6 = .ok (.invokevirtual 79, 3) := by decide +kernel
theorem dX6_coveredBy_9 : decode cX6_coveredBy 9 = .ok (.ireturn, 1) := by decide +kernel
theorem dX6_lengthOf_0 : decode cX6_lengthOf 0 = .ok (.iconst 0, 1) := by decide +kernel
theorem dX6_lengthOf_1 : decode cX6_lengthOf 1 = .ok (.istore_n 2, 1) := by decide +kernel
theorem dX6_lengthOf_2 : decode cX6_lengthOf 2 = .ok (.iconst 0, 1) := by decide +kernel
theorem dX6_lengthOf_3 : decode cX6_lengthOf 3 = .ok (.istore_n 3, 1) := by decide +kernel
theorem dX6_lengthOf_4 : decode cX6_lengthOf 4 = .ok (.iload_n 3, 1) := by decide +kernel
theorem dX6_lengthOf_5 : decode cX6_lengthOf 5 = .ok (.aload_n 0, 1) := by decide +kernel
theorem dX6_lengthOf_6 : decode cX6_lengthOf 6 = .ok (.getfield 9, 3) := by decide +kernel
theorem dX6_lengthOf_9 : decode cX6_lengthOf 9 = .ok (.if_icmp .ge 26, 3) := by decide +kernel
theorem dX6_lengthOf_12 : decode cX6_lengthOf 12 = .ok (.iload_n 3, 1) := by decide +kernel
theorem dX6_lengthOf_13 : decode cX6_lengthOf 13 = .ok (.iload_n 1, 1) := by decide +kernel
theorem dX6_lengthOf_14 : decode cX6_lengthOf 14 = .ok (.invokestatic 65, 3) := by decide +kernel
theorem dX6_lengthOf_17 : decode cX6_lengthOf 17 = .ok (.ifCond .eq 12, 3) := by decide +kernel
theorem dX6_lengthOf_20 : decode cX6_lengthOf 20 = .ok (.iload_n 2, 1) := by decide +kernel
theorem dX6_lengthOf_21 : decode cX6_lengthOf 21 = .ok (.aload_n 0, 1) := by decide +kernel
theorem dX6_lengthOf_22 : decode cX6_lengthOf 22 = .ok (.getfield 28, 3) := by decide +kernel
theorem dX6_lengthOf_25 : decode cX6_lengthOf 25 = .ok (.iload_n 3, 1) := by decide +kernel
theorem dX6_lengthOf_26 : decode cX6_lengthOf 26 = .ok (.iaload, 1) := by decide +kernel
theorem dX6_lengthOf_27 : decode cX6_lengthOf 27 = .ok (.iadd, 1) := by decide +kernel
theorem dX6_lengthOf_28 : decode cX6_lengthOf 28 = .ok (.istore_n 2, 1) := by decide +kernel
theorem dX6_lengthOf_29 : decode cX6_lengthOf 29 = .ok (.iinc 3 1, 3) := by decide +kernel
theorem dX6_lengthOf_32 : decode cX6_lengthOf 32 = .ok (.goto (-28), 3) := by decide +kernel
theorem dX6_lengthOf_35 : decode cX6_lengthOf 35 = .ok (.iload_n 2, 1) := by decide +kernel
theorem dX6_lengthOf_36 : decode cX6_lengthOf 36 = .ok (.ireturn, 1) := by decide +kernel
theorem dX6_gainOf_0 : decode cX6_gainOf 0 = .ok (.aload_n 0, 1) := by decide +kernel
theorem dX6_gainOf_1 : decode cX6_gainOf 1 = .ok (.aload_n 0, 1) := by decide +kernel
theorem dX6_gainOf_2 : decode cX6_gainOf 2 = .ok (.aload_n 0, 1) := by decide +kernel
theorem dX6_gainOf_3 : decode cX6_gainOf 3 = .ok (.getfield 38, 3) := by decide +kernel
theorem dX6_gainOf_6 : decode cX6_gainOf 6 = .ok (.iload_n 1, 1) := by decide +kernel
theorem dX6_gainOf_7 : decode cX6_gainOf 7 = .ok (.iaload, 1) := by decide +kernel
theorem dX6_gainOf_8 : decode cX6_gainOf 8 = .ok (.invokevirtual 75, 3) := by decide +kernel
theorem dX6_gainOf_11 : decode cX6_gainOf 11 = .ok (.aload_n 0, 1) := by decide +kernel
theorem dX6_gainOf_12 : decode cX6_gainOf 12 = .ok (.iload_n 2, 1) := by decide +kernel
theorem dX6_gainOf_13 : decode cX6_gainOf 13 = .ok (.invokevirtual 75, 3) := by decide +kernel
theorem dX6_gainOf_16 : decode cX6_gainOf 16 = .ok (.ldc2_w 82, 3) := by decide +kernel
theorem dX6_gainOf_19 : decode cX6_gainOf 19 = .ok (.lxor, 1) := by decide +kernel
theorem dX6_gainOf_20 : decode cX6_gainOf 20 = .ok (.land, 1) := by decide +kernel
theorem dX6_gainOf_21 : decode cX6_gainOf 21 = .ok (.invokevirtual 79, 3) := by decide +kernel
theorem dX6_gainOf_24 : decode cX6_gainOf 24 = .ok (.ireturn, 1) := by decide +kernel
theorem dX6_costOf_0 : decode cX6_costOf 0 = .ok (.aload_n 0, 1) := by decide +kernel
theorem dX6_costOf_1 : decode cX6_costOf 1 = .ok (.aload_n 0, 1) := by decide +kernel
theorem dX6_costOf_2 : decode cX6_costOf 2 = .ok (.getfield 38, 3) := by decide +kernel
theorem dX6_costOf_5 : decode cX6_costOf 5 = .ok (.iload_n 1, 1) := by decide +kernel
theorem dX6_costOf_6 : decode cX6_costOf 6 = .ok (.iaload, 1) := by decide +kernel
theorem dX6_costOf_7 : decode cX6_costOf 7 = .ok (.iload_n 2, 1) := by decide +kernel
theorem dX6_costOf_8 : decode cX6_costOf 8 = .ok (.iconst (-1), 1) := by decide +kernel
theorem dX6_costOf_9 : decode cX6_costOf 9 = .ok (.ixor, 1) := by decide +kernel
theorem dX6_costOf_10 : decode cX6_costOf 10 = .ok (.iand, 1) := by decide +kernel
theorem dX6_costOf_11 : decode cX6_costOf 11 = .ok (.invokevirtual 84, 3) := by decide +kernel
theorem dX6_costOf_14 : decode cX6_costOf 14 = .ok (.ireturn, 1) := by decide +kernel
theorem dX6_fitsInto_0 : decode cX6_fitsInto 0 = .ok (.iload_n 1, 1) := by decide +kernel
theorem dX6_fitsInto_1 : decode cX6_fitsInto 1 = .ok (.iload_n 2, 1) := by decide +kernel
theorem dX6_fitsInto_2 : decode cX6_fitsInto 2 = .ok (.invokestatic 65, 3) := by decide +kernel
theorem dX6_fitsInto_5 : decode cX6_fitsInto 5 = .ok (.ifCond .ne 26, 3) := by decide +kernel
theorem dX6_fitsInto_8 : decode cX6_fitsInto 8 = .ok (.aload_n 0, 1) := by decide +kernel
theorem dX6_fitsInto_9 : decode cX6_fitsInto 9 = .ok (.iload_n 2, 1) := by decide +kernel
theorem dX6_fitsInto_10 : decode cX6_fitsInto 10 = .ok (.aload_n 0, 1) := by decide +kernel
theorem dX6_fitsInto_11 : decode cX6_fitsInto 11 = .ok (.getfield 38, 3) := by decide +kernel
theorem dX6_fitsInto_14 : decode cX6_fitsInto 14 = .ok (.iload_n 1, 1) := by decide +kernel
theorem dX6_fitsInto_15 : decode cX6_fitsInto 15 = .ok (.iaload, 1) := by decide +kernel
theorem dX6_fitsInto_16 : decode cX6_fitsInto 16 = .ok (.ior, 1) := by decide +kernel
theorem dX6_fitsInto_17 : decode cX6_fitsInto 17 = .ok (.invokevirtual 84, 3) := by decide +kernel
theorem dX6_fitsInto_20 : decode cX6_fitsInto 20 = .ok (.aload_n 0, 1) := by decide +kernel
theorem dX6_fitsInto_21 : decode cX6_fitsInto 21 = .ok (.getfield 18, 3) := by decide +kernel
theorem dX6_fitsInto_24 : decode cX6_fitsInto 24 = .ok (.if_icmp .gt 7, 3) := by decide +kernel
theorem dX6_fitsInto_27 : decode cX6_fitsInto 27 = .ok (.iconst 1, 1) := by decide +kernel
theorem dX6_fitsInto_28 : decode cX6_fitsInto 28 = .ok (.goto 4, 3) := by decide +kernel
theorem dX6_fitsInto_31 : decode cX6_fitsInto 31 = .ok (.iconst 0, 1) := by decide +kernel
theorem dX6_fitsInto_32 : decode cX6_fitsInto 32 = .ok (.ireturn, 1) := by decide +kernel
theorem dX7_init_0 : decode cX7_init 0 = .ok (.aload_n 0, 1) := by decide +kernel
theorem dX7_init_1 : decode cX7_init 1 = .ok (.invokespecial 3, 3) := by decide +kernel
theorem dX7_init_4 : decode cX7_init 4 = .ok (.aload_n 0, 1) := by decide +kernel
theorem dX7_init_5 : decode cX7_init 5 = .ok (.iconst (-1), 1) := by decide +kernel
theorem dX7_init_6 : decode cX7_init 6 = .ok (.putfield 9, 3) := by decide +kernel
theorem dX7_init_9 : decode cX7_init 9 = .ok (.aload_n 0, 1) := by decide +kernel
theorem dX7_init_10 : decode cX7_init 10 = .ok (.iconst (-1), 1) := by decide +kernel
theorem dX7_init_11 : decode cX7_init 11 = .ok (.putfield 15, 3) := by decide +kernel
theorem dX7_init_14 : decode cX7_init 14 = .ok (.aload_n 0, 1) := by decide +kernel
theorem dX7_init_15 : decode cX7_init 15 = .ok (.iconst 0, 1) := by decide +kernel
theorem dX7_init_16 : decode cX7_init 16 = .ok (.putfield 18, 3) := by decide +kernel
theorem dX7_init_19 : decode cX7_init 19 = .ok (.return_, 1) := by decide +kernel
theorem dX7_run_0 : decode cX7_run 0 = .ok (.aload_n 0, 1) := by decide +kernel
theorem dX7_run_1 : decode cX7_run 1 = .ok (.iconst (-1), 1) := by decide +kernel
theorem dX7_run_2 : decode cX7_run 2 = .ok (.putfield 9, 3) := by decide +kernel
theorem dX7_run_5 : decode cX7_run 5 = .ok (.aload_n 0, 1) := by decide +kernel
theorem dX7_run_6 : decode cX7_run 6 = .ok (.iconst (-1), 1) := by decide +kernel
theorem dX7_run_7 : decode cX7_run 7 = .ok (.putfield 15, 3) := by decide +kernel
theorem dX7_run_10 : decode cX7_run 10 = .ok (.aload_n 0, 1) := by decide +kernel
theorem dX7_run_11 : decode cX7_run 11 = .ok (.aload_n 1, 1) := by decide +kernel
theorem dX7_run_12 : decode cX7_run 12 = .ok (.aload_n 1, 1) := by decide +kernel
theorem dX7_run_13 : decode cX7_run 13 = .ok (.getfield 21, 3) := by decide +kernel
theorem dX7_run_16 : decode cX7_run 16 = .ok (.invokevirtual 26, 3) := by decide +kernel
theorem dX7_run_19 : decode cX7_run 19 = .ok (.putfield 18, 3) := by decide +kernel
theorem dX7_run_22 : decode cX7_run 22 = .ok (.iconst 0, 1) := by decide +kernel
theorem dX7_run_23 : decode cX7_run 23 = .ok (.istore_n 2, 1) := by decide +kernel
theorem dX7_run_24 : decode cX7_run 24 = .ok (.iload_n 2, 1) := by decide +kernel
theorem dX7_run_25 : decode cX7_run 25 = .ok (.aload_n 1, 1) := by decide +kernel
theorem dX7_run_26 : decode cX7_run 26 = .ok (.getfield 30, 3) := by decide +kernel
theorem dX7_run_29 : decode cX7_run 29 = .ok (.if_icmp .ge 54, 3) := by decide +kernel
theorem dX7_run_32 : decode cX7_run 32 = .ok (.iconst 0, 1) := by decide +kernel
theorem dX7_run_33 : decode cX7_run 33 = .ok (.istore_n 3, 1) := by decide +kernel
theorem dX7_run_34 : decode cX7_run 34 = .ok (.iload_n 3, 1) := by decide +kernel
theorem dX7_run_35 : decode cX7_run 35 = .ok (.aload_n 1, 1) := by decide +kernel
theorem dX7_run_36 : decode cX7_run 36 = .ok (.getfield 30, 3) := by decide +kernel
theorem dX7_run_39 : decode cX7_run 39 = .ok (.if_icmp .ge 38, 3) := by decide +kernel
theorem dX7_run_42 : decode cX7_run 42 = .ok (.iload_n 2, 1) := by decide +kernel
theorem dX7_run_43 : decode cX7_run 43 = .ok (.aload_n 1, 1) := by decide +kernel
theorem dX7_run_44 : decode cX7_run 44 = .ok (.getfield 21, 3) := by decide +kernel
theorem dX7_run_47 : decode cX7_run 47 = .ok (.invokestatic 33, 3) := by decide +kernel
theorem dX7_run_50 : decode cX7_run 50 = .ok (.ifCond .eq 21, 3) := by decide +kernel
theorem dX7_run_53 : decode cX7_run 53 = .ok (.iload_n 3, 1) := by decide +kernel
theorem dX7_run_54 : decode cX7_run 54 = .ok (.aload_n 1, 1) := by decide +kernel
theorem dX7_run_55 : decode cX7_run 55 = .ok (.getfield 21, 3) := by decide +kernel
theorem dX7_run_58 : decode cX7_run 58 = .ok (.invokestatic 33, 3) := by decide +kernel
theorem dX7_run_61 : decode cX7_run 61 = .ok (.ifCond .ne 10, 3) := by decide +kernel
theorem dX7_run_64 : decode cX7_run 64 = .ok (.aload_n 0, 1) := by decide +kernel
theorem dX7_run_65 : decode cX7_run 65 = .ok (.aload_n 1, 1) := by decide +kernel
theorem dX7_run_66 : decode cX7_run 66 = .ok (.iload_n 2, 1) := by decide +kernel
theorem dX7_run_67 : decode cX7_run 67 = .ok (.iload_n 3, 1) := by decide +kernel
theorem dX7_run_68 : decode cX7_run 68 = .ok (.invokevirtual 37, 3) := by decide +kernel
theorem dX7_run_71 : decode cX7_run 71 = .ok (.iinc 3 1, 3) := by decide +kernel
theorem dX7_run_74 : decode cX7_run 74 = .ok (.goto (-40), 3) := by decide +kernel
theorem dX7_run_77 : decode cX7_run 77 = .ok (.iinc 2 1, 3) := by decide +kernel
theorem dX7_run_80 : decode cX7_run 80 = .ok (.goto (-56), 3) := by decide +kernel
theorem dX7_run_83 : decode cX7_run 83 = .ok (.return_, 1) := by decide +kernel
theorem dX7_offer_0 : decode cX7_offer 0 = .ok (.aload_n 1, 1) := by decide +kernel
theorem dX7_offer_1 : decode cX7_offer 1 = .ok (.getfield 21, 3) := by decide +kernel
theorem dX7_offer_4 : decode cX7_offer 4 = .ok (.iconst 1, 1) := by decide +kernel
theorem dX7_offer_5 : decode cX7_offer 5 = .ok (.iload_n 2, 1) := by decide +kernel
theorem dX7_offer_6 : decode cX7_offer 6 = .ok (.ishl, 1) := by decide +kernel
theorem dX7_offer_7 : decode cX7_offer 7 = .ok (.iconst (-1), 1) := by decide +kernel
theorem dX7_offer_8 : decode cX7_offer 8 = .ok (.ixor, 1) := by decide +kernel
theorem dX7_offer_9 : decode cX7_offer 9 = .ok (.iand, 1) := by decide +kernel
theorem dX7_offer_10 : decode cX7_offer 10 = .ok (.iconst 1, 1) := by decide +kernel
theorem dX7_offer_11 : decode cX7_offer 11 = .ok (.iload_n 3, 1) := by decide +kernel
theorem dX7_offer_12 : decode cX7_offer 12 = .ok (.ishl, 1) := by decide +kernel
theorem dX7_offer_13 : decode cX7_offer 13 = .ok (.ior, 1) := by decide +kernel
theorem dX7_offer_14 : decode cX7_offer 14 = .ok (.istore 4, 2) := by decide +kernel
theorem dX7_offer_16 : decode cX7_offer 16 = .ok (.aload_n 1, 1) := by decide +kernel
theorem dX7_offer_17 : decode cX7_offer 17 = .ok (.iload 4, 2) := by decide +kernel
theorem dX7_offer_19 : decode cX7_offer 19 = .ok (.invokevirtual 26, 3) := by decide +kernel
theorem dX7_offer_22 : decode cX7_offer 22 = .ok (.istore 5, 2) := by decide +kernel
theorem dX7_offer_24 : decode cX7_offer 24 = .ok (.iload 5, 2) := by decide +kernel
theorem dX7_offer_26 : decode cX7_offer 26 = .ok (.aload_n 0, 1) := by decide +kernel
theorem dX7_offer_27 : decode cX7_offer 27 = .ok (.getfield 18, 3) := by decide +kernel
theorem dX7_offer_30 : decode cX7_offer 30 = .ok (.if_icmp .le 41, 3) := by decide +kernel
theorem dX7_offer_33 : decode cX7_offer 33 = .ok (.aload_n 1, 1) := by decide +kernel
theorem dX7_offer_34 : decode cX7_offer 34 = .ok (.iload 4, 2) := by decide +kernel
theorem dX7_offer_36 : decode cX7_offer 36 = .ok (.invokevirtual 41, 3) := by decide +kernel
theorem dX7_offer_39 : decode cX7_offer 39 = .ok (.aload_n 1, 1) := by decide +kernel
theorem dX7_offer_40 : decode cX7_offer 40 = .ok (.getfield 44, 3) := by decide +kernel
theorem dX7_offer_43 : decode cX7_offer 43 = .ok (.if_icmp .gt 28, 3) := by decide +kernel
theorem dX7_offer_46 : decode cX7_offer 46 = .ok (.aload_n 1, 1) := by decide +kernel
theorem dX7_offer_47 : decode cX7_offer 47 = .ok (.iload 4, 2) := by decide +kernel
theorem dX7_offer_49 : decode cX7_offer 49 = .ok (.invokevirtual 47, 3) := by decide +kernel
theorem dX7_offer_52 : decode cX7_offer 52 = .ok (.ifCond .eq 19, 3) := by decide +kernel
theorem dX7_offer_55 : decode cX7_offer 55 = .ok (.aload_n 0, 1) := by decide +kernel
theorem dX7_offer_56 : decode cX7_offer 56 = .ok (.iload_n 2, 1) := by decide +kernel
theorem dX7_offer_57 : decode cX7_offer 57 = .ok (.putfield 9, 3) := by decide +kernel
theorem dX7_offer_60 : decode cX7_offer 60 = .ok (.aload_n 0, 1) := by decide +kernel
theorem dX7_offer_61 : decode cX7_offer 61 = .ok (.iload_n 3, 1) := by decide +kernel
theorem dX7_offer_62 : decode cX7_offer 62 = .ok (.putfield 15, 3) := by decide +kernel
theorem dX7_offer_65 : decode cX7_offer 65 = .ok (.aload_n 0, 1) := by decide +kernel
theorem dX7_offer_66 : decode cX7_offer 66 = .ok (.iload 5, 2) := by decide +kernel
theorem dX7_offer_68 : decode cX7_offer 68 = .ok (.putfield 18, 3) := by decide +kernel
theorem dX7_offer_71 : decode cX7_offer 71 = .ok (.return_, 1) := by decide +kernel
