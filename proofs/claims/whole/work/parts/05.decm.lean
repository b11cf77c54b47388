theorem d_Mo_init_0 : decode prog_9_method_1_code 0 = .ok (.aload_n 0, 1) := by decide +kernel
theorem d_Mo_init_1 : decode prog_9_method_1_code 1 = .ok (.invokespecial 1, 3) := by decide +kernel
theorem d_Mo_init_4 : decode prog_9_method_1_code 4 = .ok (.aload_n 0, 1) := by decide +kernel
theorem d_Mo_init_5 : decode prog_9_method_1_code 5 = .ok (.bipush 25, 2) := by decide +kernel
theorem d_Mo_init_7 : decode prog_9_method_1_code 7 = .ok (.newarray .int, 2) := by decide +kernel
theorem d_Mo_init_9 : decode prog_9_method_1_code 9 = .ok (.putfield 7, 3) := by decide +kernel
theorem d_Mo_init_12 : decode prog_9_method_1_code 12 = .ok (.aload_n 0, 1) := by decide +kernel
theorem d_Mo_init_13 : decode prog_9_method_1_code 13 = .ok (.bipush 20, 2) := by decide +kernel
theorem d_Mo_init_15 : decode prog_9_method_1_code 15 = .ok (.newarray .boolean, 2) := by decide +kernel
theorem d_Mo_init_17 : decode prog_9_method_1_code 17 = .ok (.putfield 13, 3) := by decide +kernel
theorem d_Mo_init_20 : decode prog_9_method_1_code 20 = .ok (.aload_n 0, 1) := by decide +kernel
theorem d_Mo_init_21 : decode prog_9_method_1_code 21 = .ok (.iconst 5, 1) := by decide +kernel
theorem d_Mo_init_22 : decode prog_9_method_1_code 22 = .ok (.newarray .boolean, 2) := by decide +kernel
theorem d_Mo_init_24 : decode prog_9_method_1_code 24 = .ok (.putfield 17, 3) := by decide +kernel
theorem d_Mo_init_27 : decode prog_9_method_1_code 27 = .ok (.aload_n 0, 1) := by decide +kernel
theorem d_Mo_init_28 : decode prog_9_method_1_code 28 = .ok (.iconst 5, 1) := by decide +kernel
theorem d_Mo_init_29 : decode prog_9_method_1_code 29 = .ok (.newarray .int, 2) := by decide +kernel
theorem d_Mo_init_31 : decode prog_9_method_1_code 31 = .ok (.putfield 20, 3) := by decide +kernel
theorem d_Mo_init_34 : decode prog_9_method_1_code 34 = .ok (.aload_n 0, 1) := by decide +kernel
theorem d_Mo_init_35 : decode prog_9_method_1_code 35 = .ok (.bipush 60, 2) := by decide +kernel
theorem d_Mo_init_37 : decode prog_9_method_1_code 37 = .ok (.newarray .int, 2) := by decide +kernel
theorem d_Mo_init_39 : decode prog_9_method_1_code 39 = .ok (.putfield 23, 3) := by decide +kernel
theorem d_Mo_init_42 : decode prog_9_method_1_code 42 = .ok (.aload_n 0, 1) := by decide +kernel
theorem d_Mo_init_43 : decode prog_9_method_1_code 43 = .ok (.bipush 60, 2) := by decide +kernel
theorem d_Mo_init_45 : decode prog_9_method_1_code 45 = .ok (.newarray .int, 2) := by decide +kernel
theorem d_Mo_init_47 : decode prog_9_method_1_code 47 = .ok (.putfield 26, 3) := by decide +kernel
theorem d_Mo_init_50 : decode prog_9_method_1_code 50 = .ok (.aload_n 0, 1) := by decide +kernel
theorem d_Mo_init_51 : decode prog_9_method_1_code 51 = .ok (.bipush 60, 2) := by decide +kernel
theorem d_Mo_init_53 : decode prog_9_method_1_code 53 = .ok (.newarray .int, 2) := by decide +kernel
theorem d_Mo_init_55 : decode prog_9_method_1_code 55 = .ok (.putfield 29, 3) := by decide +kernel
theorem d_Mo_init_58 : decode prog_9_method_1_code 58 = .ok (.aload_n 0, 1) := by decide +kernel
theorem d_Mo_init_59 : decode prog_9_method_1_code 59 = .ok (.bipush 60, 2) := by decide +kernel
theorem d_Mo_init_61 : decode prog_9_method_1_code 61 = .ok (.newarray .int, 2) := by decide +kernel
theorem d_Mo_init_63 : decode prog_9_method_1_code 63 = .ok (.putfield 32, 3) := by decide +kernel
theorem d_Mo_init_66 : decode prog_9_method_1_code 66 = .ok (.aload_n 0, 1) := by decide +kernel
theorem d_Mo_init_67 : decode prog_9_method_1_code 67 = .ok (.bipush 60, 2) := by decide +kernel
theorem d_Mo_init_69 : decode prog_9_method_1_code 69 = .ok (.newarray .long, 2) := by decide +kernel
theorem d_Mo_init_71 : decode prog_9_method_1_code 71 = .ok (.putfield 35, 3) := by decide +kernel
theorem d_Mo_init_74 : decode prog_9_method_1_code 74 = .ok (.aload_n 0, 1) := by decide +kernel
theorem d_Mo_init_75 : decode prog_9_method_1_code 75 = .ok (.bipush 10, 2) := by decide +kernel
theorem d_Mo_init_77 : decode prog_9_method_1_code 77 = .ok (.newarray .long, 2) := by decide +kernel
theorem d_Mo_init_79 : decode prog_9_method_1_code 79 = .ok (.putfield 39, 3) := by decide +kernel
theorem d_Mo_init_82 : decode prog_9_method_1_code 82 = .ok (.aload_n 0, 1) := by decide +kernel
theorem d_Mo_init_83 : decode prog_9_method_1_code 83 = .ok (.bipush 40, 2) := by decide +kernel
theorem d_Mo_init_85 : decode prog_9_method_1_code 85 = .ok (.newarray .long, 2) := by decide +kernel
theorem d_Mo_init_87 : decode prog_9_method_1_code 87 = .ok (.putfield 42, 3) := by decide +kernel
theorem d_Mo_init_90 : decode prog_9_method_1_code 90 = .ok (.aload_n 0, 1) := by decide +kernel
theorem d_Mo_init_91 : decode prog_9_method_1_code 91 = .ok (.bipush 20, 2) := by decide +kernel
theorem d_Mo_init_93 : decode prog_9_method_1_code 93 = .ok (.newarray .long, 2) := by decide +kernel
theorem d_Mo_init_95 : decode prog_9_method_1_code 95 = .ok (.putfield 45, 3) := by decide +kernel
theorem d_Mo_init_98 : decode prog_9_method_1_code 98 = .ok (.aload_n 0, 1) := by decide +kernel
theorem d_Mo_init_99 : decode prog_9_method_1_code 99 = .ok (.bipush 20, 2) := by decide +kernel
theorem d_Mo_init_101 : decode prog_9_method_1_code 101 = .ok (.newarray .long, 2) := by decide +kernel
theorem d_Mo_init_103 : decode prog_9_method_1_code 103 = .ok (.putfield 48, 3) := by decide +kernel
theorem d_Mo_init_106 : decode prog_9_method_1_code 106 = .ok (.aload_n 0, 1) := by decide +kernel
theorem d_Mo_init_107 : decode prog_9_method_1_code 107 = .ok (.bipush 20, 2) := by decide +kernel
theorem d_Mo_init_109 : decode prog_9_method_1_code 109 = .ok (.newarray .boolean, 2) := by decide +kernel
theorem d_Mo_init_111 : decode prog_9_method_1_code 111 = .ok (.putfield 51, 3) := by decide +kernel
theorem d_Mo_init_114 : decode prog_9_method_1_code 114 = .ok (.aload_n 0, 1) := by decide +kernel
theorem d_Mo_init_115 : decode prog_9_method_1_code 115 = .ok (.bipush 10, 2) := by decide +kernel
theorem d_Mo_init_117 : decode prog_9_method_1_code 117 = .ok (.newarray .long, 2) := by decide +kernel
theorem d_Mo_init_119 : decode prog_9_method_1_code 119 = .ok (.putfield 54, 3) := by decide +kernel
theorem d_Mo_init_122 : decode prog_9_method_1_code 122 = .ok (.aload_n 0, 1) := by decide +kernel
theorem d_Mo_init_123 : decode prog_9_method_1_code 123 = .ok (.sipush 160, 3) := by decide +kernel
theorem d_Mo_init_126 : decode prog_9_method_1_code 126 = .ok (.newarray .long, 2) := by decide +kernel
theorem d_Mo_init_128 : decode prog_9_method_1_code 128 = .ok (.putfield 57, 3) := by decide +kernel
theorem d_Mo_init_131 : decode prog_9_method_1_code 131 = .ok (.aload_n 0, 1) := by decide +kernel
theorem d_Mo_init_132 : decode prog_9_method_1_code 132 = .ok (.bipush 60, 2) := by decide +kernel
theorem d_Mo_init_134 : decode prog_9_method_1_code 134 = .ok (.newarray .int, 2) := by decide +kernel
theorem d_Mo_init_136 : decode prog_9_method_1_code 136 = .ok (.putfield 60, 3) := by decide +kernel
theorem d_Mo_init_139 : decode prog_9_method_1_code 139 = .ok (.aload_n 0, 1) := by decide +kernel
theorem d_Mo_init_140 : decode prog_9_method_1_code 140 = .ok (.sipush 200, 3) := by decide +kernel
theorem d_Mo_init_143 : decode prog_9_method_1_code 143 = .ok (.newarray .int, 2) := by decide +kernel
theorem d_Mo_init_145 : decode prog_9_method_1_code 145 = .ok (.putfield 63, 3) := by decide +kernel
theorem d_Mo_init_148 : decode prog_9_method_1_code 148 = .ok (.aload_n 0, 1) := by decide +kernel
theorem d_Mo_init_149 : decode prog_9_method_1_code 149 = .ok (.bipush 30, 2) := by decide +kernel
theorem d_Mo_init_151 : decode prog_9_method_1_code 151 = .ok (.newarray .long, 2) := by decide +kernel
theorem d_Mo_init_153 : decode prog_9_method_1_code 153 = .ok (.putfield 66, 3) := by decide +kernel
theorem d_Mo_init_156 : decode prog_9_method_1_code 156 = .ok (.aload_n 0, 1) := by decide +kernel
theorem d_Mo_init_157 : decode prog_9_method_1_code 157 = .ok (.bipush 30, 2) := by decide +kernel
theorem d_Mo_init_159 : decode prog_9_method_1_code 159 = .ok (.newarray .long, 2) := by decide +kernel
theorem d_Mo_init_161 : decode prog_9_method_1_code 161 = .ok (.putfield 69, 3) := by decide +kernel
theorem d_Mo_init_164 : decode prog_9_method_1_code 164 = .ok (.return_, 1) := by decide +kernel
theorem d_Mo_plant_0 : decode prog_9_method_10_code 0 = .ok (.aload_n 0, 1) := by decide +kernel
theorem d_Mo_plant_1 : decode prog_9_method_10_code 1 = .ok (.getfield 72, 3) := by decide +kernel
theorem d_Mo_plant_4 : decode prog_9_method_10_code 4 = .ok (.iconst 5, 1) := by decide +kernel
theorem d_Mo_plant_5 : decode prog_9_method_10_code 5 = .ok (.if_icmp .ne 5, 3) := by decide +kernel
theorem d_Mo_plant_8 : decode prog_9_method_10_code 8 = .ok (.iconst (-1), 1) := by decide +kernel
theorem d_Mo_plant_9 : decode prog_9_method_10_code 9 = .ok (.ireturn, 1) := by decide +kernel
theorem d_Mo_plant_10 : decode prog_9_method_10_code 10 = .ok (.aload_n 0, 1) := by decide +kernel
theorem d_Mo_plant_11 : decode prog_9_method_10_code 11 = .ok (.dup, 1) := by decide +kernel
theorem d_Mo_plant_12 : decode prog_9_method_10_code 12 = .ok (.getfield 72, 3) := by decide +kernel
theorem d_Mo_plant_15 : decode prog_9_method_10_code 15 = .ok (.iconst 1, 1) := by decide +kernel
theorem d_Mo_plant_16 : decode prog_9_method_10_code 16 = .ok (.iadd, 1) := by decide +kernel
theorem d_Mo_plant_17 : decode prog_9_method_10_code 17 = .ok (.putfield 72, 3) := by decide +kernel
theorem d_Mo_plant_20 : decode prog_9_method_10_code 20 = .ok (.aload_n 0, 1) := by decide +kernel
theorem d_Mo_plant_21 : decode prog_9_method_10_code 21 = .ok (.getfield 72, 3) := by decide +kernel
theorem d_Mo_plant_24 : decode prog_9_method_10_code 24 = .ok (.iconst 1, 1) := by decide +kernel
theorem d_Mo_plant_25 : decode prog_9_method_10_code 25 = .ok (.isub, 1) := by decide +kernel
theorem d_Mo_plant_26 : decode prog_9_method_10_code 26 = .ok (.ireturn, 1) := by decide +kernel
theorem d_Mo_share_0 : decode prog_9_method_11_code 0 = .ok (.aload_n 0, 1) := by decide +kernel
theorem d_Mo_share_1 : decode prog_9_method_11_code 1 = .ok (.iload_n 1, 1) := by decide +kernel
theorem d_Mo_share_2 : decode prog_9_method_11_code 2 = .ok (.invokevirtual 86, 3) := by decide +kernel
theorem d_Mo_share_5 : decode prog_9_method_11_code 5 = .ok (.ifCond .eq 20, 3) := by decide +kernel
theorem d_Mo_share_8 : decode prog_9_method_11_code 8 = .ok (.aload_n 0, 1) := by decide +kernel
theorem d_Mo_share_9 : decode prog_9_method_11_code 9 = .ok (.iload_n 2, 1) := by decide +kernel
theorem d_Mo_share_10 : decode prog_9_method_11_code 10 = .ok (.invokevirtual 86, 3) := by decide +kernel
theorem d_Mo_share_13 : decode prog_9_method_11_code 13 = .ok (.ifCond .eq 12, 3) := by decide +kernel
theorem d_Mo_share_16 : decode prog_9_method_11_code 16 = .ok (.lload_n 3, 1) := by decide +kernel
theorem d_Mo_share_17 : decode prog_9_method_11_code 17 = .ok (.lload 5, 2) := by decide +kernel
theorem d_Mo_share_19 : decode prog_9_method_11_code 19 = .ok (.invokestatic 90, 3) := by decide +kernel
theorem d_Mo_share_22 : decode prog_9_method_11_code 22 = .ok (.ifCond .ne 5, 3) := by decide +kernel
theorem d_Mo_share_25 : decode prog_9_method_11_code 25 = .ok (.iconst 0, 1) := by decide +kernel
theorem d_Mo_share_26 : decode prog_9_method_11_code 26 = .ok (.ireturn, 1) := by decide +kernel
theorem d_Mo_share_27 : decode prog_9_method_11_code 27 = .ok (.iconst 0, 1) := by decide +kernel
theorem d_Mo_share_28 : decode prog_9_method_11_code 28 = .ok (.istore 7, 2) := by decide +kernel
theorem d_Mo_share_30 : decode prog_9_method_11_code 30 = .ok (.iconst 0, 1) := by decide +kernel
theorem d_Mo_share_31 : decode prog_9_method_11_code 31 = .ok (.istore 8, 2) := by decide +kernel
theorem d_Mo_share_33 : decode prog_9_method_11_code 33 = .ok (.iload 8, 2) := by decide +kernel
theorem d_Mo_share_35 : decode prog_9_method_11_code 35 = .ok (.iconst 5, 1) := by decide +kernel
theorem d_Mo_share_36 : decode prog_9_method_11_code 36 = .ok (.if_icmp .ge 35, 3) := by decide +kernel
theorem d_Mo_share_39 : decode prog_9_method_11_code 39 = .ok (.iload 7, 2) := by decide +kernel
theorem d_Mo_share_41 : decode prog_9_method_11_code 41 = .ok (.iload 8, 2) := by decide +kernel
theorem d_Mo_share_43 : decode prog_9_method_11_code 43 = .ok (.iload_n 2, 1) := by decide +kernel
theorem d_Mo_share_44 : decode prog_9_method_11_code 44 = .ok (.if_icmp .ne 7, 3) := by decide +kernel
theorem d_Mo_share_47 : decode prog_9_method_11_code 47 = .ok (.iconst 0, 1) := by decide +kernel
theorem d_Mo_share_48 : decode prog_9_method_11_code 48 = .ok (.goto 14, 3) := by decide +kernel
theorem d_Mo_share_51 : decode prog_9_method_11_code 51 = .ok (.aload_n 0, 1) := by decide +kernel
theorem d_Mo_share_52 : decode prog_9_method_11_code 52 = .ok (.getfield 7, 3) := by decide +kernel
theorem d_Mo_share_55 : decode prog_9_method_11_code 55 = .ok (.iconst 5, 1) := by decide +kernel
theorem d_Mo_share_56 : decode prog_9_method_11_code 56 = .ok (.iload_n 1, 1) := by decide +kernel
theorem d_Mo_share_57 : decode prog_9_method_11_code 57 = .ok (.imul, 1) := by decide +kernel
theorem d_Mo_share_58 : decode prog_9_method_11_code 58 = .ok (.iload 8, 2) := by decide +kernel
theorem d_Mo_share_60 : decode prog_9_method_11_code 60 = .ok (.iadd, 1) := by decide +kernel
theorem d_Mo_share_61 : decode prog_9_method_11_code 61 = .ok (.iaload, 1) := by decide +kernel
theorem d_Mo_share_62 : decode prog_9_method_11_code 62 = .ok (.iadd, 1) := by decide +kernel
theorem d_Mo_share_63 : decode prog_9_method_11_code 63 = .ok (.istore 7, 2) := by decide +kernel
theorem d_Mo_share_65 : decode prog_9_method_11_code 65 = .ok (.iinc 8 1, 3) := by decide +kernel
theorem d_Mo_share_68 : decode prog_9_method_11_code 68 = .ok (.goto (-35), 3) := by decide +kernel
theorem d_Mo_share_71 : decode prog_9_method_11_code 71 = .ok (.ldc2_w 80, 3) := by decide +kernel
theorem d_Mo_share_74 : decode prog_9_method_11_code 74 = .ok (.lload 5, 2) := by decide +kernel
theorem d_Mo_share_76 : decode prog_9_method_11_code 76 = .ok (.ldiv, 1) := by decide +kernel
theorem d_Mo_share_77 : decode prog_9_method_11_code 77 = .ok (.lload_n 3, 1) := by decide +kernel
theorem d_Mo_share_78 : decode prog_9_method_11_code 78 = .ok (.lmul, 1) := by decide +kernel
theorem d_Mo_share_79 : decode prog_9_method_11_code 79 = .ok (.l2i, 1) := by decide +kernel
theorem d_Mo_share_80 : decode prog_9_method_11_code 80 = .ok (.istore 8, 2) := by decide +kernel
theorem d_Mo_share_82 : decode prog_9_method_11_code 82 = .ok (.iload 7, 2) := by decide +kernel
theorem d_Mo_share_84 : decode prog_9_method_11_code 84 = .ok (.iload 8, 2) := by decide +kernel
theorem d_Mo_share_86 : decode prog_9_method_11_code 86 = .ok (.iadd, 1) := by decide +kernel
theorem d_Mo_share_87 : decode prog_9_method_11_code 87 = .ok (.bipush 10, 2) := by decide +kernel
theorem d_Mo_share_89 : decode prog_9_method_11_code 89 = .ok (.if_icmp .le 5, 3) := by decide +kernel
theorem d_Mo_share_92 : decode prog_9_method_11_code 92 = .ok (.iconst 0, 1) := by decide +kernel
theorem d_Mo_share_93 : decode prog_9_method_11_code 93 = .ok (.ireturn, 1) := by decide +kernel
theorem d_Mo_share_94 : decode prog_9_method_11_code 94 = .ok (.aload_n 0, 1) := by decide +kernel
theorem d_Mo_share_95 : decode prog_9_method_11_code 95 = .ok (.getfield 7, 3) := by decide +kernel
theorem d_Mo_share_98 : decode prog_9_method_11_code 98 = .ok (.iconst 5, 1) := by decide +kernel
theorem d_Mo_share_99 : decode prog_9_method_11_code 99 = .ok (.iload_n 1, 1) := by decide +kernel
theorem d_Mo_share_100 : decode prog_9_method_11_code 100 = .ok (.imul, 1) := by decide +kernel
theorem d_Mo_share_101 : decode prog_9_method_11_code 101 = .ok (.iload_n 2, 1) := by decide +kernel
theorem d_Mo_share_102 : decode prog_9_method_11_code 102 = .ok (.iadd, 1) := by decide +kernel
theorem d_Mo_share_103 : decode prog_9_method_11_code 103 = .ok (.iload 8, 2) := by decide +kernel
theorem d_Mo_share_105 : decode prog_9_method_11_code 105 = .ok (.iastore, 1) := by decide +kernel
theorem d_Mo_share_106 : decode prog_9_method_11_code 106 = .ok (.iconst 1, 1) := by decide +kernel
theorem d_Mo_share_107 : decode prog_9_method_11_code 107 = .ok (.ireturn, 1) := by decide +kernel
theorem d_Mo_isPlant_0 : decode prog_9_method_4_code 0 = .ok (.iload_n 1, 1) := by decide +kernel
theorem d_Mo_isPlant_1 : decode prog_9_method_4_code 1 = .ok (.ifCond .lt 15, 3) := by decide +kernel
theorem d_Mo_isPlant_4 : decode prog_9_method_4_code 4 = .ok (.iload_n 1, 1) := by decide +kernel
theorem d_Mo_isPlant_5 : decode prog_9_method_4_code 5 = .ok (.aload_n 0, 1) := by decide +kernel
theorem d_Mo_isPlant_6 : decode prog_9_method_4_code 6 = .ok (.getfield 72, 3) := by decide +kernel
theorem d_Mo_isPlant_9 : decode prog_9_method_4_code 9 = .ok (.if_icmp .ge 7, 3) := by decide +kernel
theorem d_Mo_isPlant_12 : decode prog_9_method_4_code 12 = .ok (.iconst 1, 1) := by decide +kernel
theorem d_Mo_isPlant_13 : decode prog_9_method_4_code 13 = .ok (.goto 4, 3) := by decide +kernel
theorem d_Mo_isPlant_16 : decode prog_9_method_4_code 16 = .ok (.iconst 0, 1) := by decide +kernel
theorem d_Mo_isPlant_17 : decode prog_9_method_4_code 17 = .ok (.ireturn, 1) := by decide +kernel
theorem d_Mo_isFraction_0 : decode prog_9_method_8_code 0 = .ok (.lload_n 2, 1) := by decide +kernel
theorem d_Mo_isFraction_1 : decode prog_9_method_8_code 1 = .ok (.lconst 1, 1) := by decide +kernel
theorem d_Mo_isFraction_2 : decode prog_9_method_8_code 2 = .ok (.lcmp, 1) := by decide +kernel
theorem d_Mo_isFraction_3 : decode prog_9_method_8_code 3 = .ok (.ifCond .eq 27, 3) := by decide +kernel
theorem d_Mo_isFraction_6 : decode prog_9_method_8_code 6 = .ok (.lload_n 2, 1) := by decide +kernel
theorem d_Mo_isFraction_7 : decode prog_9_method_8_code 7 = .ok (.ldc2_w 76, 3) := by decide +kernel
theorem d_Mo_isFraction_10 : decode prog_9_method_8_code 10 = .ok (.lcmp, 1) := by decide +kernel
theorem d_Mo_isFraction_11 : decode prog_9_method_8_code 11 = .ok (.ifCond .eq 19, 3) := by decide +kernel
theorem d_Mo_isFraction_14 : decode prog_9_method_8_code 14 = .ok (.lload_n 2, 1) := by decide +kernel
theorem d_Mo_isFraction_15 : decode prog_9_method_8_code 15 = .ok (.ldc2_w 78, 3) := by decide +kernel
theorem d_Mo_isFraction_18 : decode prog_9_method_8_code 18 = .ok (.lcmp, 1) := by decide +kernel
theorem d_Mo_isFraction_19 : decode prog_9_method_8_code 19 = .ok (.ifCond .eq 11, 3) := by decide +kernel
theorem d_Mo_isFraction_22 : decode prog_9_method_8_code 22 = .ok (.lload_n 2, 1) := by decide +kernel
theorem d_Mo_isFraction_23 : decode prog_9_method_8_code 23 = .ok (.ldc2_w 80, 3) := by decide +kernel
theorem d_Mo_isFraction_26 : decode prog_9_method_8_code 26 = .ok (.lcmp, 1) := by decide +kernel
theorem d_Mo_isFraction_27 : decode prog_9_method_8_code 27 = .ok (.ifCond .ne 16, 3) := by decide +kernel
theorem d_Mo_isFraction_30 : decode prog_9_method_8_code 30 = .ok (.lload_n 0, 1) := by decide +kernel
theorem d_Mo_isFraction_31 : decode prog_9_method_8_code 31 = .ok (.lconst 0, 1) := by decide +kernel
theorem d_Mo_isFraction_32 : decode prog_9_method_8_code 32 = .ok (.lload_n 2, 1) := by decide +kernel
theorem d_Mo_isFraction_33 : decode prog_9_method_8_code 33 = .ok (.invokestatic 82, 3) := by decide +kernel
theorem d_Mo_isFraction_36 : decode prog_9_method_8_code 36 = .ok (.ifCond .eq 7, 3) := by decide +kernel
theorem d_Mo_isFraction_39 : decode prog_9_method_8_code 39 = .ok (.iconst 1, 1) := by decide +kernel
theorem d_Mo_isFraction_40 : decode prog_9_method_8_code 40 = .ok (.goto 4, 3) := by decide +kernel
theorem d_Mo_isFraction_43 : decode prog_9_method_8_code 43 = .ok (.iconst 0, 1) := by decide +kernel
theorem d_Mo_isFraction_44 : decode prog_9_method_8_code 44 = .ok (.ireturn, 1) := by decide +kernel
theorem d_Mo_isIn_0 : decode prog_9_method_3_code 0 = .ok (.lload_n 0, 1) := by decide +kernel
theorem d_Mo_isIn_1 : decode prog_9_method_3_code 1 = .ok (.lload_n 2, 1) := by decide +kernel
theorem d_Mo_isIn_2 : decode prog_9_method_3_code 2 = .ok (.lcmp, 1) := by decide +kernel
theorem d_Mo_isIn_3 : decode prog_9_method_3_code 3 = .ok (.ifCond .lt 14, 3) := by decide +kernel
theorem d_Mo_isIn_6 : decode prog_9_method_3_code 6 = .ok (.lload_n 0, 1) := by decide +kernel
theorem d_Mo_isIn_7 : decode prog_9_method_3_code 7 = .ok (.lload 4, 2) := by decide +kernel
theorem d_Mo_isIn_9 : decode prog_9_method_3_code 9 = .ok (.lcmp, 1) := by decide +kernel
theorem d_Mo_isIn_10 : decode prog_9_method_3_code 10 = .ok (.ifCond .gt 7, 3) := by decide +kernel
theorem d_Mo_isIn_13 : decode prog_9_method_3_code 13 = .ok (.iconst 1, 1) := by decide +kernel
theorem d_Mo_isIn_14 : decode prog_9_method_3_code 14 = .ok (.goto 4, 3) := by decide +kernel
theorem d_Mo_isIn_17 : decode prog_9_method_3_code 17 = .ok (.iconst 0, 1) := by decide +kernel
theorem d_Mo_isIn_18 : decode prog_9_method_3_code 18 = .ok (.ireturn, 1) := by decide +kernel
theorem d_Mo_point_0 : decode prog_9_method_12_code 0 = .ok (.aload_n 0, 1) := by decide +kernel
theorem d_Mo_point_1 : decode prog_9_method_12_code 1 = .ok (.iload_n 1, 1) := by decide +kernel
theorem d_Mo_point_2 : decode prog_9_method_12_code 2 = .ok (.invokevirtual 86, 3) := by decide +kernel
theorem d_Mo_point_5 : decode prog_9_method_12_code 5 = .ok (.ifCond .eq 23, 3) := by decide +kernel
theorem d_Mo_point_8 : decode prog_9_method_12_code 8 = .ok (.iload_n 2, 1) := by decide +kernel
theorem d_Mo_point_9 : decode prog_9_method_12_code 9 = .ok (.invokestatic 94, 3) := by decide +kernel
theorem d_Mo_point_12 : decode prog_9_method_12_code 12 = .ok (.ifCond .eq 16, 3) := by decide +kernel
theorem d_Mo_point_15 : decode prog_9_method_12_code 15 = .ok (.aload_n 0, 1) := by decide +kernel
theorem d_Mo_point_16 : decode prog_9_method_12_code 16 = .ok (.getfield 13, 3) := by decide +kernel
theorem d_Mo_point_19 : decode prog_9_method_12_code 19 = .ok (.iconst 4, 1) := by decide +kernel
theorem d_Mo_point_20 : decode prog_9_method_12_code 20 = .ok (.iload_n 1, 1) := by decide +kernel
theorem d_Mo_point_21 : decode prog_9_method_12_code 21 = .ok (.imul, 1) := by decide +kernel
theorem d_Mo_point_22 : decode prog_9_method_12_code 22 = .ok (.iload_n 2, 1) := by decide +kernel
theorem d_Mo_point_23 : decode prog_9_method_12_code 23 = .ok (.iadd, 1) := by decide +kernel
theorem d_Mo_point_24 : decode prog_9_method_12_code 24 = .ok (.baload, 1) := by decide +kernel
theorem d_Mo_point_25 : decode prog_9_method_12_code 25 = .ok (.ifCond .eq 5, 3) := by decide +kernel
theorem d_Mo_point_28 : decode prog_9_method_12_code 28 = .ok (.iconst 0, 1) := by decide +kernel
theorem d_Mo_point_29 : decode prog_9_method_12_code 29 = .ok (.ireturn, 1) := by decide +kernel
theorem d_Mo_point_30 : decode prog_9_method_12_code 30 = .ok (.aload_n 0, 1) := by decide +kernel
theorem d_Mo_point_31 : decode prog_9_method_12_code 31 = .ok (.getfield 13, 3) := by decide +kernel
theorem d_Mo_point_34 : decode prog_9_method_12_code 34 = .ok (.iconst 4, 1) := by decide +kernel
theorem d_Mo_point_35 : decode prog_9_method_12_code 35 = .ok (.iload_n 1, 1) := by decide +kernel
theorem d_Mo_point_36 : decode prog_9_method_12_code 36 = .ok (.imul, 1) := by decide +kernel
theorem d_Mo_point_37 : decode prog_9_method_12_code 37 = .ok (.iload_n 2, 1) := by decide +kernel
theorem d_Mo_point_38 : decode prog_9_method_12_code 38 = .ok (.iadd, 1) := by decide +kernel
theorem d_Mo_point_39 : decode prog_9_method_12_code 39 = .ok (.iconst 1, 1) := by decide +kernel
theorem d_Mo_point_40 : decode prog_9_method_12_code 40 = .ok (.bastore, 1) := by decide +kernel
theorem d_Mo_point_41 : decode prog_9_method_12_code 41 = .ok (.iconst 1, 1) := by decide +kernel
theorem d_Mo_point_42 : decode prog_9_method_12_code 42 = .ok (.ireturn, 1) := by decide +kernel
theorem d_Mo_isKind_0 : decode prog_9_method_5_code 0 = .ok (.iload_n 0, 1) := by decide +kernel
theorem d_Mo_isKind_1 : decode prog_9_method_5_code 1 = .ok (.ifCond .lt 12, 3) := by decide +kernel
theorem d_Mo_isKind_4 : decode prog_9_method_5_code 4 = .ok (.iload_n 0, 1) := by decide +kernel
theorem d_Mo_isKind_5 : decode prog_9_method_5_code 5 = .ok (.iconst 4, 1) := by decide +kernel
theorem d_Mo_isKind_6 : decode prog_9_method_5_code 6 = .ok (.if_icmp .ge 7, 3) := by decide +kernel
theorem d_Mo_isKind_9 : decode prog_9_method_5_code 9 = .ok (.iconst 1, 1) := by decide +kernel
theorem d_Mo_isKind_10 : decode prog_9_method_5_code 10 = .ok (.goto 4, 3) := by decide +kernel
theorem d_Mo_isKind_13 : decode prog_9_method_5_code 13 = .ok (.iconst 0, 1) := by decide +kernel
theorem d_Mo_isKind_14 : decode prog_9_method_5_code 14 = .ok (.ireturn, 1) := by decide +kernel
theorem d_Mo_average_0 : decode prog_9_method_13_code 0 = .ok (.aload_n 0, 1) := by decide +kernel
theorem d_Mo_average_1 : decode prog_9_method_13_code 1 = .ok (.iload_n 1, 1) := by decide +kernel
theorem d_Mo_average_2 : decode prog_9_method_13_code 2 = .ok (.invokevirtual 86, 3) := by decide +kernel
theorem d_Mo_average_5 : decode prog_9_method_13_code 5 = .ok (.ifCond .eq 12, 3) := by decide +kernel
theorem d_Mo_average_8 : decode prog_9_method_13_code 8 = .ok (.lload_n 2, 1) := by decide +kernel
theorem d_Mo_average_9 : decode prog_9_method_13_code 9 = .ok (.lload 4, 2) := by decide +kernel
theorem d_Mo_average_11 : decode prog_9_method_13_code 11 = .ok (.invokestatic 90, 3) := by decide +kernel
theorem d_Mo_average_14 : decode prog_9_method_13_code 14 = .ok (.ifCond .ne 5, 3) := by decide +kernel
theorem d_Mo_average_17 : decode prog_9_method_13_code 17 = .ok (.iconst 0, 1) := by decide +kernel
theorem d_Mo_average_18 : decode prog_9_method_13_code 18 = .ok (.ireturn, 1) := by decide +kernel
theorem d_Mo_average_19 : decode prog_9_method_13_code 19 = .ok (.aload_n 0, 1) := by decide +kernel
theorem d_Mo_average_20 : decode prog_9_method_13_code 20 = .ok (.getfield 17, 3) := by decide +kernel
theorem d_Mo_average_23 : decode prog_9_method_13_code 23 = .ok (.iload_n 1, 1) := by decide +kernel
theorem d_Mo_average_24 : decode prog_9_method_13_code 24 = .ok (.iconst 1, 1) := by decide +kernel
theorem d_Mo_average_25 : decode prog_9_method_13_code 25 = .ok (.bastore, 1) := by decide +kernel
theorem d_Mo_average_26 : decode prog_9_method_13_code 26 = .ok (.aload_n 0, 1) := by decide +kernel
theorem d_Mo_average_27 : decode prog_9_method_13_code 27 = .ok (.getfield 20, 3) := by decide +kernel
theorem d_Mo_average_30 : decode prog_9_method_13_code 30 = .ok (.iload_n 1, 1) := by decide +kernel
theorem d_Mo_average_31 : decode prog_9_method_13_code 31 = .ok (.ldc2_w 80, 3) := by decide +kernel
theorem d_Mo_average_34 : decode prog_9_method_13_code 34 = .ok (.lload 4, 2) := by decide +kernel
theorem d_Mo_average_36 : decode prog_9_method_13_code 36 = .ok (.ldiv, 1) := by decide +kernel
theorem d_Mo_average_37 : decode prog_9_method_13_code 37 = .ok (.lload_n 2, 1) := by decide +kernel
theorem d_Mo_average_38 : decode prog_9_method_13_code 38 = .ok (.lmul, 1) := by decide +kernel
theorem d_Mo_average_39 : decode prog_9_method_13_code 39 = .ok (.l2i, 1) := by decide +kernel
theorem d_Mo_average_40 : decode prog_9_method_13_code 40 = .ok (.iastore, 1) := by decide +kernel
theorem d_Mo_average_41 : decode prog_9_method_13_code 41 = .ok (.iconst 1, 1) := by decide +kernel
theorem d_Mo_average_42 : decode prog_9_method_13_code 42 = .ok (.ireturn, 1) := by decide +kernel
theorem d_Mo_feed_0 : decode prog_9_method_14_code 0 = .ok (.aload_n 0, 1) := by decide +kernel
theorem d_Mo_feed_1 : decode prog_9_method_14_code 1 = .ok (.getfield 97, 3) := by decide +kernel
theorem d_Mo_feed_4 : decode prog_9_method_14_code 4 = .ok (.bipush 60, 2) := by decide +kernel
theorem d_Mo_feed_6 : decode prog_9_method_14_code 6 = .ok (.if_icmp .eq 45, 3) := by decide +kernel
theorem d_Mo_feed_9 : decode prog_9_method_14_code 9 = .ok (.aload_n 0, 1) := by decide +kernel
theorem d_Mo_feed_10 : decode prog_9_method_14_code 10 = .ok (.iload_n 1, 1) := by decide +kernel
theorem d_Mo_feed_11 : decode prog_9_method_14_code 11 = .ok (.invokevirtual 86, 3) := by decide +kernel
theorem d_Mo_feed_14 : decode prog_9_method_14_code 14 = .ok (.ifCond .eq 37, 3) := by decide +kernel
theorem d_Mo_feed_17 : decode prog_9_method_14_code 17 = .ok (.iload_n 2, 1) := by decide +kernel
theorem d_Mo_feed_18 : decode prog_9_method_14_code 18 = .ok (.invokestatic 94, 3) := by decide +kernel
theorem d_Mo_feed_21 : decode prog_9_method_14_code 21 = .ok (.ifCond .eq 30, 3) := by decide +kernel
theorem d_Mo_feed_24 : decode prog_9_method_14_code 24 = .ok (.lload_n 3, 1) := by decide +kernel
theorem d_Mo_feed_25 : decode prog_9_method_14_code 25 = .ok (.lconst 0, 1) := by decide +kernel
theorem d_Mo_feed_26 : decode prog_9_method_14_code 26 = .ok (.ldc2_w 100, 3) := by decide +kernel
theorem d_Mo_feed_29 : decode prog_9_method_14_code 29 = .ok (.invokestatic 82, 3) := by decide +kernel
theorem d_Mo_feed_32 : decode prog_9_method_14_code 32 = .ok (.ifCond .eq 19, 3) := by decide +kernel
theorem d_Mo_feed_35 : decode prog_9_method_14_code 35 = .ok (.iload 5, 2) := by decide +kernel
theorem d_Mo_feed_37 : decode prog_9_method_14_code 37 = .ok (.invokestatic 102, 3) := by decide +kernel
theorem d_Mo_feed_40 : decode prog_9_method_14_code 40 = .ok (.ifCond .eq 11, 3) := by decide +kernel
theorem d_Mo_feed_43 : decode prog_9_method_14_code 43 = .ok (.iload 6, 2) := by decide +kernel
theorem d_Mo_feed_45 : decode prog_9_method_14_code 45 = .ok (.invokestatic 105, 3) := by decide +kernel
theorem d_Mo_feed_48 : decode prog_9_method_14_code 48 = .ok (.ifCond .ne 5, 3) := by decide +kernel
theorem d_Mo_feed_51 : decode prog_9_method_14_code 51 = .ok (.iconst 0, 1) := by decide +kernel
theorem d_Mo_feed_52 : decode prog_9_method_14_code 52 = .ok (.ireturn, 1) := by decide +kernel
theorem d_Mo_feed_53 : decode prog_9_method_14_code 53 = .ok (.aload_n 0, 1) := by decide +kernel
theorem d_Mo_feed_54 : decode prog_9_method_14_code 54 = .ok (.getfield 23, 3) := by decide +kernel
theorem d_Mo_feed_57 : decode prog_9_method_14_code 57 = .ok (.aload_n 0, 1) := by decide +kernel
theorem d_Mo_feed_58 : decode prog_9_method_14_code 58 = .ok (.getfield 97, 3) := by decide +kernel
theorem d_Mo_feed_61 : decode prog_9_method_14_code 61 = .ok (.iload_n 1, 1) := by decide +kernel
theorem d_Mo_feed_62 : decode prog_9_method_14_code 62 = .ok (.iastore, 1) := by decide +kernel
theorem d_Mo_feed_63 : decode prog_9_method_14_code 63 = .ok (.aload_n 0, 1) := by decide +kernel
theorem d_Mo_feed_64 : decode prog_9_method_14_code 64 = .ok (.getfield 26, 3) := by decide +kernel
theorem d_Mo_feed_67 : decode prog_9_method_14_code 67 = .ok (.aload_n 0, 1) := by decide +kernel
theorem d_Mo_feed_68 : decode prog_9_method_14_code 68 = .ok (.getfield 97, 3) := by decide +kernel
theorem d_Mo_feed_71 : decode prog_9_method_14_code 71 = .ok (.iload_n 2, 1) := by decide +kernel
theorem d_Mo_feed_72 : decode prog_9_method_14_code 72 = .ok (.iastore, 1) := by decide +kernel
theorem d_Mo_feed_73 : decode prog_9_method_14_code 73 = .ok (.aload_n 0, 1) := by decide +kernel
theorem d_Mo_feed_74 : decode prog_9_method_14_code 74 = .ok (.getfield 35, 3) := by decide +kernel
theorem d_Mo_feed_77 : decode prog_9_method_14_code 77 = .ok (.aload_n 0, 1) := by decide +kernel
theorem d_Mo_feed_78 : decode prog_9_method_14_code 78 = .ok (.getfield 97, 3) := by decide +kernel
theorem d_Mo_feed_81 : decode prog_9_method_14_code 81 = .ok (.lload_n 3, 1) := by decide +kernel
theorem d_Mo_feed_82 : decode prog_9_method_14_code 82 = .ok (.lastore, 1) := by decide +kernel
theorem d_Mo_feed_83 : decode prog_9_method_14_code 83 = .ok (.aload_n 0, 1) := by decide +kernel
theorem d_Mo_feed_84 : decode prog_9_method_14_code 84 = .ok (.getfield 29, 3) := by decide +kernel
theorem d_Mo_feed_87 : decode prog_9_method_14_code 87 = .ok (.aload_n 0, 1) := by decide +kernel
theorem d_Mo_feed_88 : decode prog_9_method_14_code 88 = .ok (.getfield 97, 3) := by decide +kernel
theorem d_Mo_feed_91 : decode prog_9_method_14_code 91 = .ok (.iload 5, 2) := by decide +kernel
theorem d_Mo_feed_93 : decode prog_9_method_14_code 93 = .ok (.iastore, 1) := by decide +kernel
theorem d_Mo_feed_94 : decode prog_9_method_14_code 94 = .ok (.aload_n 0, 1) := by decide +kernel
theorem d_Mo_feed_95 : decode prog_9_method_14_code 95 = .ok (.getfield 32, 3) := by decide +kernel
theorem d_Mo_feed_98 : decode prog_9_method_14_code 98 = .ok (.aload_n 0, 1) := by decide +kernel
theorem d_Mo_feed_99 : decode prog_9_method_14_code 99 = .ok (.getfield 97, 3) := by decide +kernel
theorem d_Mo_feed_102 : decode prog_9_method_14_code 102 = .ok (.iload 6, 2) := by decide +kernel
theorem d_Mo_feed_104 : decode prog_9_method_14_code 104 = .ok (.iastore, 1) := by decide +kernel
theorem d_Mo_feed_105 : decode prog_9_method_14_code 105 = .ok (.aload_n 0, 1) := by decide +kernel
theorem d_Mo_feed_106 : decode prog_9_method_14_code 106 = .ok (.dup, 1) := by decide +kernel
theorem d_Mo_feed_107 : decode prog_9_method_14_code 107 = .ok (.getfield 97, 3) := by decide +kernel
theorem d_Mo_feed_110 : decode prog_9_method_14_code 110 = .ok (.iconst 1, 1) := by decide +kernel
theorem d_Mo_feed_111 : decode prog_9_method_14_code 111 = .ok (.iadd, 1) := by decide +kernel
theorem d_Mo_feed_112 : decode prog_9_method_14_code 112 = .ok (.putfield 97, 3) := by decide +kernel
theorem d_Mo_feed_115 : decode prog_9_method_14_code 115 = .ok (.iconst 1, 1) := by decide +kernel
theorem d_Mo_feed_116 : decode prog_9_method_14_code 116 = .ok (.ireturn, 1) := by decide +kernel
theorem d_Mo_isYear_0 : decode prog_9_method_6_code 0 = .ok (.iload_n 0, 1) := by decide +kernel
theorem d_Mo_isYear_1 : decode prog_9_method_6_code 1 = .ok (.ifCond .lt 13, 3) := by decide +kernel
theorem d_Mo_isYear_4 : decode prog_9_method_6_code 4 = .ok (.iload_n 0, 1) := by decide +kernel
theorem d_Mo_isYear_5 : decode prog_9_method_6_code 5 = .ok (.bipush 10, 2) := by decide +kernel
theorem d_Mo_isYear_7 : decode prog_9_method_6_code 7 = .ok (.if_icmp .ge 7, 3) := by decide +kernel
theorem d_Mo_isYear_10 : decode prog_9_method_6_code 10 = .ok (.iconst 1, 1) := by decide +kernel
theorem d_Mo_isYear_11 : decode prog_9_method_6_code 11 = .ok (.goto 4, 3) := by decide +kernel
theorem d_Mo_isYear_14 : decode prog_9_method_6_code 14 = .ok (.iconst 0, 1) := by decide +kernel
theorem d_Mo_isYear_15 : decode prog_9_method_6_code 15 = .ok (.ireturn, 1) := by decide +kernel
theorem d_Mo_isCountry_0 : decode prog_9_method_7_code 0 = .ok (.iload_n 0, 1) := by decide +kernel
theorem d_Mo_isCountry_1 : decode prog_9_method_7_code 1 = .ok (.ifCond .lt 12, 3) := by decide +kernel
theorem d_Mo_isCountry_4 : decode prog_9_method_7_code 4 = .ok (.iload_n 0, 1) := by decide +kernel
theorem d_Mo_isCountry_5 : decode prog_9_method_7_code 5 = .ok (.iconst 4, 1) := by decide +kernel
theorem d_Mo_isCountry_6 : decode prog_9_method_7_code 6 = .ok (.if_icmp .ge 7, 3) := by decide +kernel
theorem d_Mo_isCountry_9 : decode prog_9_method_7_code 9 = .ok (.iconst 1, 1) := by decide +kernel
theorem d_Mo_isCountry_10 : decode prog_9_method_7_code 10 = .ok (.goto 4, 3) := by decide +kernel
theorem d_Mo_isCountry_13 : decode prog_9_method_7_code 13 = .ok (.iconst 0, 1) := by decide +kernel
theorem d_Mo_isCountry_14 : decode prog_9_method_7_code 14 = .ok (.ireturn, 1) := by decide +kernel
theorem d_Mo_metals_0 : decode prog_9_method_15_code 0 = .ok (.iload_n 1, 1) := by decide +kernel
theorem d_Mo_metals_1 : decode prog_9_method_15_code 1 = .ok (.invokestatic 102, 3) := by decide +kernel
theorem d_Mo_metals_4 : decode prog_9_method_15_code 4 = .ok (.ifCond .eq 14, 3) := by decide +kernel
theorem d_Mo_metals_7 : decode prog_9_method_15_code 7 = .ok (.lload_n 2, 1) := by decide +kernel
theorem d_Mo_metals_8 : decode prog_9_method_15_code 8 = .ok (.lconst 0, 1) := by decide +kernel
theorem d_Mo_metals_9 : decode prog_9_method_15_code 9 = .ok (.ldc2_w 100, 3) := by decide +kernel
theorem d_Mo_metals_12 : decode prog_9_method_15_code 12 = .ok (.invokestatic 82, 3) := by decide +kernel
theorem d_Mo_metals_15 : decode prog_9_method_15_code 15 = .ok (.ifCond .ne 5, 3) := by decide +kernel
theorem d_Mo_metals_18 : decode prog_9_method_15_code 18 = .ok (.iconst 0, 1) := by decide +kernel
theorem d_Mo_metals_19 : decode prog_9_method_15_code 19 = .ok (.ireturn, 1) := by decide +kernel
theorem d_Mo_metals_20 : decode prog_9_method_15_code 20 = .ok (.aload_n 0, 1) := by decide +kernel
theorem d_Mo_metals_21 : decode prog_9_method_15_code 21 = .ok (.getfield 39, 3) := by decide +kernel
theorem d_Mo_metals_24 : decode prog_9_method_15_code 24 = .ok (.iload_n 1, 1) := by decide +kernel
theorem d_Mo_metals_25 : decode prog_9_method_15_code 25 = .ok (.lload_n 2, 1) := by decide +kernel
theorem d_Mo_metals_26 : decode prog_9_method_15_code 26 = .ok (.lastore, 1) := by decide +kernel
theorem d_Mo_metals_27 : decode prog_9_method_15_code 27 = .ok (.iconst 1, 1) := by decide +kernel
theorem d_Mo_metals_28 : decode prog_9_method_15_code 28 = .ok (.ireturn, 1) := by decide +kernel
theorem d_Mo_placed_0 : decode prog_9_method_16_code 0 = .ok (.iload_n 1, 1) := by decide +kernel
theorem d_Mo_placed_1 : decode prog_9_method_16_code 1 = .ok (.invokestatic 94, 3) := by decide +kernel
theorem d_Mo_placed_4 : decode prog_9_method_16_code 4 = .ok (.ifCond .eq 21, 3) := by decide +kernel
theorem d_Mo_placed_7 : decode prog_9_method_16_code 7 = .ok (.iload_n 2, 1) := by decide +kernel
theorem d_Mo_placed_8 : decode prog_9_method_16_code 8 = .ok (.invokestatic 102, 3) := by decide +kernel
theorem d_Mo_placed_11 : decode prog_9_method_16_code 11 = .ok (.ifCond .eq 14, 3) := by decide +kernel
theorem d_Mo_placed_14 : decode prog_9_method_16_code 14 = .ok (.lload_n 3, 1) := by decide +kernel
theorem d_Mo_placed_15 : decode prog_9_method_16_code 15 = .ok (.lconst 0, 1) := by decide +kernel
theorem d_Mo_placed_16 : decode prog_9_method_16_code 16 = .ok (.ldc2_w 108, 3) := by decide +kernel
theorem d_Mo_placed_19 : decode prog_9_method_16_code 19 = .ok (.invokestatic 82, 3) := by decide +kernel
theorem d_Mo_placed_22 : decode prog_9_method_16_code 22 = .ok (.ifCond .ne 5, 3) := by decide +kernel
theorem d_Mo_placed_25 : decode prog_9_method_16_code 25 = .ok (.iconst 0, 1) := by decide +kernel
theorem d_Mo_placed_26 : decode prog_9_method_16_code 26 = .ok (.ireturn, 1) := by decide +kernel
theorem d_Mo_placed_27 : decode prog_9_method_16_code 27 = .ok (.aload_n 0, 1) := by decide +kernel
theorem d_Mo_placed_28 : decode prog_9_method_16_code 28 = .ok (.getfield 42, 3) := by decide +kernel
theorem d_Mo_placed_31 : decode prog_9_method_16_code 31 = .ok (.bipush 10, 2) := by decide +kernel
theorem d_Mo_placed_33 : decode prog_9_method_16_code 33 = .ok (.iload_n 1, 1) := by decide +kernel
theorem d_Mo_placed_34 : decode prog_9_method_16_code 34 = .ok (.imul, 1) := by decide +kernel
theorem d_Mo_placed_35 : decode prog_9_method_16_code 35 = .ok (.iload_n 2, 1) := by decide +kernel
theorem d_Mo_placed_36 : decode prog_9_method_16_code 36 = .ok (.iadd, 1) := by decide +kernel
theorem d_Mo_placed_37 : decode prog_9_method_16_code 37 = .ok (.lload_n 3, 1) := by decide +kernel
theorem d_Mo_placed_38 : decode prog_9_method_16_code 38 = .ok (.lastore, 1) := by decide +kernel
theorem d_Mo_placed_39 : decode prog_9_method_16_code 39 = .ok (.iconst 1, 1) := by decide +kernel
theorem d_Mo_placed_40 : decode prog_9_method_16_code 40 = .ok (.ireturn, 1) := by decide +kernel
theorem d_Mo_solve_0 : decode prog_9_method_24_code 0 = .ok (.iconst 0, 1) := by decide +kernel
theorem d_Mo_solve_1 : decode prog_9_method_24_code 1 = .ok (.istore_n 1, 1) := by decide +kernel
theorem d_Mo_solve_2 : decode prog_9_method_24_code 2 = .ok (.iload_n 1, 1) := by decide +kernel
theorem d_Mo_solve_3 : decode prog_9_method_24_code 3 = .ok (.aload_n 0, 1) := by decide +kernel
theorem d_Mo_solve_4 : decode prog_9_method_24_code 4 = .ok (.getfield 72, 3) := by decide +kernel
theorem d_Mo_solve_7 : decode prog_9_method_24_code 7 = .ok (.if_icmp .ge 35, 3) := by decide +kernel
theorem d_Mo_solve_10 : decode prog_9_method_24_code 10 = .ok (.iconst 0, 1) := by decide +kernel
theorem d_Mo_solve_11 : decode prog_9_method_24_code 11 = .ok (.istore_n 2, 1) := by decide +kernel
theorem d_Mo_solve_12 : decode prog_9_method_24_code 12 = .ok (.iload_n 2, 1) := by decide +kernel
theorem d_Mo_solve_13 : decode prog_9_method_24_code 13 = .ok (.iconst 4, 1) := by decide +kernel
theorem d_Mo_solve_14 : decode prog_9_method_24_code 14 = .ok (.if_icmp .ge 22, 3) := by decide +kernel
theorem d_Mo_solve_17 : decode prog_9_method_24_code 17 = .ok (.aload_n 0, 1) := by decide +kernel
theorem d_Mo_solve_18 : decode prog_9_method_24_code 18 = .ok (.iload_n 1, 1) := by decide +kernel
theorem d_Mo_solve_19 : decode prog_9_method_24_code 19 = .ok (.iload_n 2, 1) := by decide +kernel
theorem d_Mo_solve_20 : decode prog_9_method_24_code 20 = .ok (.invokevirtual 130, 3) := by decide +kernel
theorem d_Mo_solve_23 : decode prog_9_method_24_code 23 = .ok (.ifCond .ne 7, 3) := by decide +kernel
theorem d_Mo_solve_26 : decode prog_9_method_24_code 26 = .ok (.iconst 1, 1) := by decide +kernel
theorem d_Mo_solve_27 : decode prog_9_method_24_code 27 = .ok (.iload_n 1, 1) := by decide +kernel
theorem d_Mo_solve_28 : decode prog_9_method_24_code 28 = .ok (.iadd, 1) := by decide +kernel
theorem d_Mo_solve_29 : decode prog_9_method_24_code 29 = .ok (.ireturn, 1) := by decide +kernel
theorem d_Mo_solve_30 : decode prog_9_method_24_code 30 = .ok (.iinc 2 1, 3) := by decide +kernel
theorem d_Mo_solve_33 : decode prog_9_method_24_code 33 = .ok (.goto (-21), 3) := by decide +kernel
theorem d_Mo_solve_36 : decode prog_9_method_24_code 36 = .ok (.iinc 1 1, 3) := by decide +kernel
theorem d_Mo_solve_39 : decode prog_9_method_24_code 39 = .ok (.goto (-37), 3) := by decide +kernel
theorem d_Mo_solve_42 : decode prog_9_method_24_code 42 = .ok (.iconst 0, 1) := by decide +kernel
theorem d_Mo_solve_43 : decode prog_9_method_24_code 43 = .ok (.istore_n 1, 1) := by decide +kernel
theorem d_Mo_solve_44 : decode prog_9_method_24_code 44 = .ok (.iload_n 1, 1) := by decide +kernel
theorem d_Mo_solve_45 : decode prog_9_method_24_code 45 = .ok (.iconst 4, 1) := by decide +kernel
theorem d_Mo_solve_46 : decode prog_9_method_24_code 46 = .ok (.if_icmp .ge 161, 3) := by decide +kernel
theorem d_Mo_solve_49 : decode prog_9_method_24_code 49 = .ok (.aload_n 0, 1) := by decide +kernel
theorem d_Mo_solve_50 : decode prog_9_method_24_code 50 = .ok (.iload_n 1, 1) := by decide +kernel
theorem d_Mo_solve_51 : decode prog_9_method_24_code 51 = .ok (.invokevirtual 134, 3) := by decide +kernel
theorem d_Mo_solve_54 : decode prog_9_method_24_code 54 = .ok (.aload_n 0, 1) := by decide +kernel
theorem d_Mo_solve_55 : decode prog_9_method_24_code 55 = .ok (.invokevirtual 138, 3) := by decide +kernel
theorem d_Mo_solve_58 : decode prog_9_method_24_code 58 = .ok (.iconst 0, 1) := by decide +kernel
theorem d_Mo_solve_59 : decode prog_9_method_24_code 59 = .ok (.istore_n 2, 1) := by decide +kernel
theorem d_Mo_solve_60 : decode prog_9_method_24_code 60 = .ok (.iload_n 2, 1) := by decide +kernel
theorem d_Mo_solve_61 : decode prog_9_method_24_code 61 = .ok (.aload_n 0, 1) := by decide +kernel
theorem d_Mo_solve_62 : decode prog_9_method_24_code 62 = .ok (.getfield 72, 3) := by decide +kernel
theorem d_Mo_solve_65 : decode prog_9_method_24_code 65 = .ok (.if_icmp .ge 136, 3) := by decide +kernel
theorem d_Mo_solve_68 : decode prog_9_method_24_code 68 = .ok (.aload_n 0, 1) := by decide +kernel
theorem d_Mo_solve_69 : decode prog_9_method_24_code 69 = .ok (.getfield 66, 3) := by decide +kernel
theorem d_Mo_solve_72 : decode prog_9_method_24_code 72 = .ok (.bipush 6, 2) := by decide +kernel
theorem d_Mo_solve_74 : decode prog_9_method_24_code 74 = .ok (.iload_n 2, 1) := by decide +kernel
theorem d_Mo_solve_75 : decode prog_9_method_24_code 75 = .ok (.imul, 1) := by decide +kernel
theorem d_Mo_solve_76 : decode prog_9_method_24_code 76 = .ok (.iconst 5, 1) := by decide +kernel
theorem d_Mo_solve_77 : decode prog_9_method_24_code 77 = .ok (.iadd, 1) := by decide +kernel
theorem d_Mo_solve_78 : decode prog_9_method_24_code 78 = .ok (.laload, 1) := by decide +kernel
theorem d_Mo_solve_79 : decode prog_9_method_24_code 79 = .ok (.aload_n 0, 1) := by decide +kernel
theorem d_Mo_solve_80 : decode prog_9_method_24_code 80 = .ok (.getfield 69, 3) := by decide +kernel
theorem d_Mo_solve_83 : decode prog_9_method_24_code 83 = .ok (.bipush 6, 2) := by decide +kernel
theorem d_Mo_solve_85 : decode prog_9_method_24_code 85 = .ok (.iload_n 2, 1) := by decide +kernel
theorem d_Mo_solve_86 : decode prog_9_method_24_code 86 = .ok (.imul, 1) := by decide +kernel
theorem d_Mo_solve_87 : decode prog_9_method_24_code 87 = .ok (.iload_n 2, 1) := by decide +kernel
theorem d_Mo_solve_88 : decode prog_9_method_24_code 88 = .ok (.iadd, 1) := by decide +kernel
theorem d_Mo_solve_89 : decode prog_9_method_24_code 89 = .ok (.laload, 1) := by decide +kernel
theorem d_Mo_solve_90 : decode prog_9_method_24_code 90 = .ok (.lmul, 1) := by decide +kernel
theorem d_Mo_solve_91 : decode prog_9_method_24_code 91 = .ok (.lstore_n 3, 1) := by decide +kernel
theorem d_Mo_solve_92 : decode prog_9_method_24_code 92 = .ok (.aload_n 0, 1) := by decide +kernel
theorem d_Mo_solve_93 : decode prog_9_method_24_code 93 = .ok (.getfield 69, 3) := by decide +kernel
theorem d_Mo_solve_96 : decode prog_9_method_24_code 96 = .ok (.bipush 6, 2) := by decide +kernel
theorem d_Mo_solve_98 : decode prog_9_method_24_code 98 = .ok (.iload_n 2, 1) := by decide +kernel
theorem d_Mo_solve_99 : decode prog_9_method_24_code 99 = .ok (.imul, 1) := by decide +kernel
theorem d_Mo_solve_100 : decode prog_9_method_24_code 100 = .ok (.iconst 5, 1) := by decide +kernel
theorem d_Mo_solve_101 : decode prog_9_method_24_code 101 = .ok (.iadd, 1) := by decide +kernel
theorem d_Mo_solve_102 : decode prog_9_method_24_code 102 = .ok (.laload, 1) := by decide +kernel
theorem d_Mo_solve_103 : decode prog_9_method_24_code 103 = .ok (.aload_n 0, 1) := by decide +kernel
theorem d_Mo_solve_104 : decode prog_9_method_24_code 104 = .ok (.getfield 66, 3) := by decide +kernel
theorem d_Mo_solve_107 : decode prog_9_method_24_code 107 = .ok (.bipush 6, 2) := by decide +kernel
theorem d_Mo_solve_109 : decode prog_9_method_24_code 109 = .ok (.iload_n 2, 1) := by decide +kernel
theorem d_Mo_solve_110 : decode prog_9_method_24_code 110 = .ok (.imul, 1) := by decide +kernel
theorem d_Mo_solve_111 : decode prog_9_method_24_code 111 = .ok (.iload_n 2, 1) := by decide +kernel
theorem d_Mo_solve_112 : decode prog_9_method_24_code 112 = .ok (.iadd, 1) := by decide +kernel
theorem d_Mo_solve_113 : decode prog_9_method_24_code 113 = .ok (.laload, 1) := by decide +kernel
theorem d_Mo_solve_114 : decode prog_9_method_24_code 114 = .ok (.lmul, 1) := by decide +kernel
theorem d_Mo_solve_115 : decode prog_9_method_24_code 115 = .ok (.lstore 5, 2) := by decide +kernel
theorem d_Mo_solve_117 : decode prog_9_method_24_code 117 = .ok (.lload_n 3, 1) := by decide +kernel
theorem d_Mo_solve_118 : decode prog_9_method_24_code 118 = .ok (.lload 5, 2) := by decide +kernel
theorem d_Mo_solve_120 : decode prog_9_method_24_code 120 = .ok (.lconst 0, 1) := by decide +kernel
theorem d_Mo_solve_121 : decode prog_9_method_24_code 121 = .ok (.lcmp, 1) := by decide +kernel
theorem d_Mo_solve_122 : decode prog_9_method_24_code 122 = .ok (.ifCond .ge 9, 3) := by decide +kernel
theorem d_Mo_solve_125 : decode prog_9_method_24_code 125 = .ok (.lload 5, 2) := by decide +kernel
theorem d_Mo_solve_127 : decode prog_9_method_24_code 127 = .ok (.lneg, 1) := by decide +kernel
theorem d_Mo_solve_128 : decode prog_9_method_24_code 128 = .ok (.goto 5, 3) := by decide +kernel
theorem d_Mo_solve_131 : decode prog_9_method_24_code 131 = .ok (.lload 5, 2) := by decide +kernel
theorem d_Mo_solve_133 : decode prog_9_method_24_code 133 = .ok (.invokestatic 114, 3) := by decide +kernel
theorem d_Mo_solve_136 : decode prog_9_method_24_code 136 = .ok (.lstore 7, 2) := by decide +kernel
theorem d_Mo_solve_138 : decode prog_9_method_24_code 138 = .ok (.aload_n 0, 1) := by decide +kernel
theorem d_Mo_solve_139 : decode prog_9_method_24_code 139 = .ok (.getfield 45, 3) := by decide +kernel
theorem d_Mo_solve_142 : decode prog_9_method_24_code 142 = .ok (.iconst 4, 1) := by decide +kernel
theorem d_Mo_solve_143 : decode prog_9_method_24_code 143 = .ok (.iload_n 2, 1) := by decide +kernel
theorem d_Mo_solve_144 : decode prog_9_method_24_code 144 = .ok (.imul, 1) := by decide +kernel
theorem d_Mo_solve_145 : decode prog_9_method_24_code 145 = .ok (.iload_n 1, 1) := by decide +kernel
theorem d_Mo_solve_146 : decode prog_9_method_24_code 146 = .ok (.iadd, 1) := by decide +kernel
theorem d_Mo_solve_147 : decode prog_9_method_24_code 147 = .ok (.lload 5, 2) := by decide +kernel
theorem d_Mo_solve_149 : decode prog_9_method_24_code 149 = .ok (.lconst 0, 1) := by decide +kernel
theorem d_Mo_solve_150 : decode prog_9_method_24_code 150 = .ok (.lcmp, 1) := by decide +kernel
theorem d_Mo_solve_151 : decode prog_9_method_24_code 151 = .ok (.ifCond .ge 11, 3) := by decide +kernel
theorem d_Mo_solve_154 : decode prog_9_method_24_code 154 = .ok (.lload_n 3, 1) := by decide +kernel
theorem d_Mo_solve_155 : decode prog_9_method_24_code 155 = .ok (.lneg, 1) := by decide +kernel
theorem d_Mo_solve_156 : decode prog_9_method_24_code 156 = .ok (.lload 7, 2) := by decide +kernel
theorem d_Mo_solve_158 : decode prog_9_method_24_code 158 = .ok (.ldiv, 1) := by decide +kernel
theorem d_Mo_solve_159 : decode prog_9_method_24_code 159 = .ok (.goto 7, 3) := by decide +kernel
theorem d_Mo_solve_162 : decode prog_9_method_24_code 162 = .ok (.lload_n 3, 1) := by decide +kernel
theorem d_Mo_solve_163 : decode prog_9_method_24_code 163 = .ok (.lload 7, 2) := by decide +kernel
theorem d_Mo_solve_165 : decode prog_9_method_24_code 165 = .ok (.ldiv, 1) := by decide +kernel
theorem d_Mo_solve_166 : decode prog_9_method_24_code 166 = .ok (.lastore, 1) := by decide +kernel
theorem d_Mo_solve_167 : decode prog_9_method_24_code 167 = .ok (.aload_n 0, 1) := by decide +kernel
theorem d_Mo_solve_168 : decode prog_9_method_24_code 168 = .ok (.getfield 48, 3) := by decide +kernel
theorem d_Mo_solve_171 : decode prog_9_method_24_code 171 = .ok (.iconst 4, 1) := by decide +kernel
theorem d_Mo_solve_172 : decode prog_9_method_24_code 172 = .ok (.iload_n 2, 1) := by decide +kernel
theorem d_Mo_solve_173 : decode prog_9_method_24_code 173 = .ok (.imul, 1) := by decide +kernel
theorem d_Mo_solve_174 : decode prog_9_method_24_code 174 = .ok (.iload_n 1, 1) := by decide +kernel
theorem d_Mo_solve_175 : decode prog_9_method_24_code 175 = .ok (.iadd, 1) := by decide +kernel
theorem d_Mo_solve_176 : decode prog_9_method_24_code 176 = .ok (.lload 5, 2) := by decide +kernel
theorem d_Mo_solve_178 : decode prog_9_method_24_code 178 = .ok (.lconst 0, 1) := by decide +kernel
theorem d_Mo_solve_179 : decode prog_9_method_24_code 179 = .ok (.lcmp, 1) := by decide +kernel
theorem d_Mo_solve_180 : decode prog_9_method_24_code 180 = .ok (.ifCond .ge 9, 3) := by decide +kernel
theorem d_Mo_solve_183 : decode prog_9_method_24_code 183 = .ok (.lload 5, 2) := by decide +kernel
theorem d_Mo_solve_185 : decode prog_9_method_24_code 185 = .ok (.lneg, 1) := by decide +kernel
theorem d_Mo_solve_186 : decode prog_9_method_24_code 186 = .ok (.goto 5, 3) := by decide +kernel
theorem d_Mo_solve_189 : decode prog_9_method_24_code 189 = .ok (.lload 5, 2) := by decide +kernel
theorem d_Mo_solve_191 : decode prog_9_method_24_code 191 = .ok (.lload 7, 2) := by decide +kernel
theorem d_Mo_solve_193 : decode prog_9_method_24_code 193 = .ok (.ldiv, 1) := by decide +kernel
theorem d_Mo_solve_194 : decode prog_9_method_24_code 194 = .ok (.lastore, 1) := by decide +kernel
theorem d_Mo_solve_195 : decode prog_9_method_24_code 195 = .ok (.iinc 2 1, 3) := by decide +kernel
theorem d_Mo_solve_198 : decode prog_9_method_24_code 198 = .ok (.goto (-138), 3) := by decide +kernel
theorem d_Mo_solve_201 : decode prog_9_method_24_code 201 = .ok (.iinc 1 1, 3) := by decide +kernel
theorem d_Mo_solve_204 : decode prog_9_method_24_code 204 = .ok (.goto (-160), 3) := by decide +kernel
theorem d_Mo_solve_207 : decode prog_9_method_24_code 207 = .ok (.aload_n 0, 1) := by decide +kernel
theorem d_Mo_solve_208 : decode prog_9_method_24_code 208 = .ok (.iconst 1, 1) := by decide +kernel
theorem d_Mo_solve_209 : decode prog_9_method_24_code 209 = .ok (.putfield 141, 3) := by decide +kernel
theorem d_Mo_solve_212 : decode prog_9_method_24_code 212 = .ok (.aload_n 0, 1) := by decide +kernel
theorem d_Mo_solve_213 : decode prog_9_method_24_code 213 = .ok (.aload_n 0, 1) := by decide +kernel
theorem d_Mo_solve_214 : decode prog_9_method_24_code 214 = .ok (.getfield 72, 3) := by decide +kernel
theorem d_Mo_solve_217 : decode prog_9_method_24_code 217 = .ok (.putfield 145, 3) := by decide +kernel
theorem d_Mo_solve_220 : decode prog_9_method_24_code 220 = .ok (.aload_n 0, 1) := by decide +kernel
theorem d_Mo_solve_221 : decode prog_9_method_24_code 221 = .ok (.aload_n 0, 1) := by decide +kernel
theorem d_Mo_solve_222 : decode prog_9_method_24_code 222 = .ok (.getfield 97, 3) := by decide +kernel
theorem d_Mo_solve_225 : decode prog_9_method_24_code 225 = .ok (.putfield 148, 3) := by decide +kernel
theorem d_Mo_solve_228 : decode prog_9_method_24_code 228 = .ok (.iconst 0, 1) := by decide +kernel
theorem d_Mo_solve_229 : decode prog_9_method_24_code 229 = .ok (.istore_n 1, 1) := by decide +kernel
theorem d_Mo_solve_230 : decode prog_9_method_24_code 230 = .ok (.iload_n 1, 1) := by decide +kernel
theorem d_Mo_solve_231 : decode prog_9_method_24_code 231 = .ok (.bipush 10, 2) := by decide +kernel
theorem d_Mo_solve_233 : decode prog_9_method_24_code 233 = .ok (.if_icmp .ge 21, 3) := by decide +kernel
theorem d_Mo_solve_236 : decode prog_9_method_24_code 236 = .ok (.aload_n 0, 1) := by decide +kernel
theorem d_Mo_solve_237 : decode prog_9_method_24_code 237 = .ok (.getfield 54, 3) := by decide +kernel
theorem d_Mo_solve_240 : decode prog_9_method_24_code 240 = .ok (.iload_n 1, 1) := by decide +kernel
theorem d_Mo_solve_241 : decode prog_9_method_24_code 241 = .ok (.aload_n 0, 1) := by decide +kernel
theorem d_Mo_solve_242 : decode prog_9_method_24_code 242 = .ok (.getfield 39, 3) := by decide +kernel
theorem d_Mo_solve_245 : decode prog_9_method_24_code 245 = .ok (.iload_n 1, 1) := by decide +kernel
theorem d_Mo_solve_246 : decode prog_9_method_24_code 246 = .ok (.laload, 1) := by decide +kernel
theorem d_Mo_solve_247 : decode prog_9_method_24_code 247 = .ok (.lastore, 1) := by decide +kernel
theorem d_Mo_solve_248 : decode prog_9_method_24_code 248 = .ok (.iinc 1 1, 3) := by decide +kernel
theorem d_Mo_solve_251 : decode prog_9_method_24_code 251 = .ok (.goto (-21), 3) := by decide +kernel
theorem d_Mo_solve_254 : decode prog_9_method_24_code 254 = .ok (.iconst 0, 1) := by decide +kernel
theorem d_Mo_solve_255 : decode prog_9_method_24_code 255 = .ok (.istore_n 1, 1) := by decide +kernel
theorem d_Mo_solve_256 : decode prog_9_method_24_code 256 = .ok (.iload_n 1, 1) := by decide +kernel
theorem d_Mo_solve_257 : decode prog_9_method_24_code 257 = .ok (.sipush 160, 3) := by decide +kernel
theorem d_Mo_solve_260 : decode prog_9_method_24_code 260 = .ok (.if_icmp .ge 16, 3) := by decide +kernel
theorem d_Mo_solve_263 : decode prog_9_method_24_code 263 = .ok (.aload_n 0, 1) := by decide +kernel
theorem d_Mo_solve_264 : decode prog_9_method_24_code 264 = .ok (.getfield 57, 3) := by decide +kernel
theorem d_Mo_solve_267 : decode prog_9_method_24_code 267 = .ok (.iload_n 1, 1) := by decide +kernel
theorem d_Mo_solve_268 : decode prog_9_method_24_code 268 = .ok (.lconst 0, 1) := by decide +kernel
theorem d_Mo_solve_269 : decode prog_9_method_24_code 269 = .ok (.lastore, 1) := by decide +kernel
theorem d_Mo_solve_270 : decode prog_9_method_24_code 270 = .ok (.iinc 1 1, 3) := by decide +kernel
theorem d_Mo_solve_273 : decode prog_9_method_24_code 273 = .ok (.goto (-17), 3) := by decide +kernel
theorem d_Mo_solve_276 : decode prog_9_method_24_code 276 = .ok (.aload_n 0, 1) := by decide +kernel
theorem d_Mo_solve_277 : decode prog_9_method_24_code 277 = .ok (.invokevirtual 151, 3) := by decide +kernel
theorem d_Mo_solve_280 : decode prog_9_method_24_code 280 = .ok (.iconst 0, 1) := by decide +kernel
theorem d_Mo_solve_281 : decode prog_9_method_24_code 281 = .ok (.ireturn, 1) := by decide +kernel
theorem d_Mo_ends_0 : decode prog_9_method_18_code 0 = .ok (.iconst 1, 1) := by decide +kernel
theorem d_Mo_ends_1 : decode prog_9_method_18_code 1 = .ok (.iload_n 1, 1) := by decide +kernel
theorem d_Mo_ends_2 : decode prog_9_method_18_code 2 = .ok (.ishl, 1) := by decide +kernel
theorem d_Mo_ends_3 : decode prog_9_method_18_code 3 = .ok (.istore_n 3, 1) := by decide +kernel
theorem d_Mo_ends_4 : decode prog_9_method_18_code 4 = .ok (.iconst 0, 1) := by decide +kernel
theorem d_Mo_ends_5 : decode prog_9_method_18_code 5 = .ok (.istore 4, 2) := by decide +kernel
theorem d_Mo_ends_7 : decode prog_9_method_18_code 7 = .ok (.iload 4, 2) := by decide +kernel
theorem d_Mo_ends_9 : decode prog_9_method_18_code 9 = .ok (.iconst 5, 1) := by decide +kernel
theorem d_Mo_ends_10 : decode prog_9_method_18_code 10 = .ok (.if_icmp .ge 107, 3) := by decide +kernel
theorem d_Mo_ends_13 : decode prog_9_method_18_code 13 = .ok (.iconst 0, 1) := by decide +kernel
theorem d_Mo_ends_14 : decode prog_9_method_18_code 14 = .ok (.istore 5, 2) := by decide +kernel
theorem d_Mo_ends_16 : decode prog_9_method_18_code 16 = .ok (.iload 5, 2) := by decide +kernel
theorem d_Mo_ends_18 : decode prog_9_method_18_code 18 = .ok (.aload_n 0, 1) := by decide +kernel
theorem d_Mo_ends_19 : decode prog_9_method_18_code 19 = .ok (.getfield 72, 3) := by decide +kernel
theorem d_Mo_ends_22 : decode prog_9_method_18_code 22 = .ok (.if_icmp .ge 89, 3) := by decide +kernel
theorem d_Mo_ends_25 : decode prog_9_method_18_code 25 = .ok (.iconst 0, 1) := by decide +kernel
theorem d_Mo_ends_26 : decode prog_9_method_18_code 26 = .ok (.istore 6, 2) := by decide +kernel
theorem d_Mo_ends_28 : decode prog_9_method_18_code 28 = .ok (.iload 6, 2) := by decide +kernel
theorem d_Mo_ends_30 : decode prog_9_method_18_code 30 = .ok (.aload_n 0, 1) := by decide +kernel
theorem d_Mo_ends_31 : decode prog_9_method_18_code 31 = .ok (.getfield 72, 3) := by decide +kernel
theorem d_Mo_ends_34 : decode prog_9_method_18_code 34 = .ok (.if_icmp .ge 71, 3) := by decide +kernel
theorem d_Mo_ends_37 : decode prog_9_method_18_code 37 = .ok (.iload_n 3, 1) := by decide +kernel
theorem d_Mo_ends_38 : decode prog_9_method_18_code 38 = .ok (.iload 5, 2) := by decide +kernel
theorem d_Mo_ends_40 : decode prog_9_method_18_code 40 = .ok (.ishr, 1) := by decide +kernel
theorem d_Mo_ends_41 : decode prog_9_method_18_code 41 = .ok (.iconst 1, 1) := by decide +kernel
theorem d_Mo_ends_42 : decode prog_9_method_18_code 42 = .ok (.iand, 1) := by decide +kernel
theorem d_Mo_ends_43 : decode prog_9_method_18_code 43 = .ok (.iconst 1, 1) := by decide +kernel
theorem d_Mo_ends_44 : decode prog_9_method_18_code 44 = .ok (.if_icmp .ne 36, 3) := by decide +kernel
theorem d_Mo_ends_47 : decode prog_9_method_18_code 47 = .ok (.aload_n 0, 1) := by decide +kernel
theorem d_Mo_ends_48 : decode prog_9_method_18_code 48 = .ok (.getfield 13, 3) := by decide +kernel
theorem d_Mo_ends_51 : decode prog_9_method_18_code 51 = .ok (.iconst 4, 1) := by decide +kernel
theorem d_Mo_ends_52 : decode prog_9_method_18_code 52 = .ok (.iload 5, 2) := by decide +kernel
theorem d_Mo_ends_54 : decode prog_9_method_18_code 54 = .ok (.imul, 1) := by decide +kernel
theorem d_Mo_ends_55 : decode prog_9_method_18_code 55 = .ok (.iload_n 2, 1) := by decide +kernel
theorem d_Mo_ends_56 : decode prog_9_method_18_code 56 = .ok (.iadd, 1) := by decide +kernel
theorem d_Mo_ends_57 : decode prog_9_method_18_code 57 = .ok (.baload, 1) := by decide +kernel
theorem d_Mo_ends_58 : decode prog_9_method_18_code 58 = .ok (.ifCond .ne 22, 3) := by decide +kernel
theorem d_Mo_ends_61 : decode prog_9_method_18_code 61 = .ok (.aload_n 0, 1) := by decide +kernel
theorem d_Mo_ends_62 : decode prog_9_method_18_code 62 = .ok (.getfield 7, 3) := by decide +kernel
theorem d_Mo_ends_65 : decode prog_9_method_18_code 65 = .ok (.iconst 5, 1) := by decide +kernel
theorem d_Mo_ends_66 : decode prog_9_method_18_code 66 = .ok (.iload 5, 2) := by decide +kernel
theorem d_Mo_ends_68 : decode prog_9_method_18_code 68 = .ok (.imul, 1) := by decide +kernel
theorem d_Mo_ends_69 : decode prog_9_method_18_code 69 = .ok (.iload 6, 2) := by decide +kernel
theorem d_Mo_ends_71 : decode prog_9_method_18_code 71 = .ok (.iadd, 1) := by decide +kernel
theorem d_Mo_ends_72 : decode prog_9_method_18_code 72 = .ok (.iaload, 1) := by decide +kernel
theorem d_Mo_ends_73 : decode prog_9_method_18_code 73 = .ok (.ifCond .le 7, 3) := by decide +kernel
theorem d_Mo_ends_76 : decode prog_9_method_18_code 76 = .ok (.iconst 1, 1) := by decide +kernel
theorem d_Mo_ends_77 : decode prog_9_method_18_code 77 = .ok (.goto 4, 3) := by decide +kernel
theorem d_Mo_ends_80 : decode prog_9_method_18_code 80 = .ok (.iconst 0, 1) := by decide +kernel
theorem d_Mo_ends_81 : decode prog_9_method_18_code 81 = .ok (.istore 7, 2) := by decide +kernel
theorem d_Mo_ends_83 : decode prog_9_method_18_code 83 = .ok (.iload_n 3, 1) := by decide +kernel
theorem d_Mo_ends_84 : decode prog_9_method_18_code 84 = .ok (.iload 7, 2) := by decide +kernel
theorem d_Mo_ends_86 : decode prog_9_method_18_code 86 = .ok (.ifCond .eq 10, 3) := by decide +kernel
theorem d_Mo_ends_89 : decode prog_9_method_18_code 89 = .ok (.iconst 1, 1) := by decide +kernel
theorem d_Mo_ends_90 : decode prog_9_method_18_code 90 = .ok (.iload 6, 2) := by decide +kernel
theorem d_Mo_ends_92 : decode prog_9_method_18_code 92 = .ok (.ishl, 1) := by decide +kernel
theorem d_Mo_ends_93 : decode prog_9_method_18_code 93 = .ok (.goto 4, 3) := by decide +kernel
theorem d_Mo_ends_96 : decode prog_9_method_18_code 96 = .ok (.iconst 0, 1) := by decide +kernel
theorem d_Mo_ends_97 : decode prog_9_method_18_code 97 = .ok (.ior, 1) := by decide +kernel
theorem d_Mo_ends_98 : decode prog_9_method_18_code 98 = .ok (.istore_n 3, 1) := by decide +kernel
theorem d_Mo_ends_99 : decode prog_9_method_18_code 99 = .ok (.iinc 6 1, 3) := by decide +kernel
theorem d_Mo_ends_102 : decode prog_9_method_18_code 102 = .ok (.goto (-74), 3) := by decide +kernel
theorem d_Mo_ends_105 : decode prog_9_method_18_code 105 = .ok (.iinc 5 1, 3) := by decide +kernel
theorem d_Mo_ends_108 : decode prog_9_method_18_code 108 = .ok (.goto (-92), 3) := by decide +kernel
theorem d_Mo_ends_111 : decode prog_9_method_18_code 111 = .ok (.iinc 4 1, 3) := by decide +kernel
theorem d_Mo_ends_114 : decode prog_9_method_18_code 114 = .ok (.goto (-107), 3) := by decide +kernel
theorem d_Mo_ends_117 : decode prog_9_method_18_code 117 = .ok (.iconst 0, 1) := by decide +kernel
theorem d_Mo_ends_118 : decode prog_9_method_18_code 118 = .ok (.istore 4, 2) := by decide +kernel
theorem d_Mo_ends_120 : decode prog_9_method_18_code 120 = .ok (.iconst 0, 1) := by decide +kernel
theorem d_Mo_ends_121 : decode prog_9_method_18_code 121 = .ok (.istore 5, 2) := by decide +kernel
theorem d_Mo_ends_123 : decode prog_9_method_18_code 123 = .ok (.iload 5, 2) := by decide +kernel
theorem d_Mo_ends_125 : decode prog_9_method_18_code 125 = .ok (.aload_n 0, 1) := by decide +kernel
theorem d_Mo_ends_126 : decode prog_9_method_18_code 126 = .ok (.getfield 72, 3) := by decide +kernel
theorem d_Mo_ends_129 : decode prog_9_method_18_code 129 = .ok (.if_icmp .ge 65, 3) := by decide +kernel
theorem d_Mo_ends_132 : decode prog_9_method_18_code 132 = .ok (.iload 4, 2) := by decide +kernel
theorem d_Mo_ends_134 : decode prog_9_method_18_code 134 = .ok (.ifCond .ne 47, 3) := by decide +kernel
theorem d_Mo_ends_137 : decode prog_9_method_18_code 137 = .ok (.iload_n 3, 1) := by decide +kernel
theorem d_Mo_ends_138 : decode prog_9_method_18_code 138 = .ok (.iload 5, 2) := by decide +kernel
theorem d_Mo_ends_140 : decode prog_9_method_18_code 140 = .ok (.ishr, 1) := by decide +kernel
theorem d_Mo_ends_141 : decode prog_9_method_18_code 141 = .ok (.iconst 1, 1) := by decide +kernel
theorem d_Mo_ends_142 : decode prog_9_method_18_code 142 = .ok (.iand, 1) := by decide +kernel
theorem d_Mo_ends_143 : decode prog_9_method_18_code 143 = .ok (.iconst 1, 1) := by decide +kernel
theorem d_Mo_ends_144 : decode prog_9_method_18_code 144 = .ok (.if_icmp .ne 41, 3) := by decide +kernel
theorem d_Mo_ends_147 : decode prog_9_method_18_code 147 = .ok (.aload_n 0, 1) := by decide +kernel
theorem d_Mo_ends_148 : decode prog_9_method_18_code 148 = .ok (.getfield 13, 3) := by decide +kernel
theorem d_Mo_ends_151 : decode prog_9_method_18_code 151 = .ok (.iconst 4, 1) := by decide +kernel
theorem d_Mo_ends_152 : decode prog_9_method_18_code 152 = .ok (.iload 5, 2) := by decide +kernel
theorem d_Mo_ends_154 : decode prog_9_method_18_code 154 = .ok (.imul, 1) := by decide +kernel
theorem d_Mo_ends_155 : decode prog_9_method_18_code 155 = .ok (.iload_n 2, 1) := by decide +kernel
theorem d_Mo_ends_156 : decode prog_9_method_18_code 156 = .ok (.iadd, 1) := by decide +kernel
theorem d_Mo_ends_157 : decode prog_9_method_18_code 157 = .ok (.baload, 1) := by decide +kernel
theorem d_Mo_ends_158 : decode prog_9_method_18_code 158 = .ok (.ifCond .ne 23, 3) := by decide +kernel
theorem d_Mo_ends_161 : decode prog_9_method_18_code 161 = .ok (.aload_n 0, 1) := by decide +kernel
theorem d_Mo_ends_162 : decode prog_9_method_18_code 162 = .ok (.iload 5, 2) := by decide +kernel
theorem d_Mo_ends_164 : decode prog_9_method_18_code 164 = .ok (.invokevirtual 110, 3) := by decide +kernel
theorem d_Mo_ends_167 : decode prog_9_method_18_code 167 = .ok (.ifCond .eq 14, 3) := by decide +kernel
theorem d_Mo_ends_170 : decode prog_9_method_18_code 170 = .ok (.aload_n 0, 1) := by decide +kernel
theorem d_Mo_ends_171 : decode prog_9_method_18_code 171 = .ok (.iload 5, 2) := by decide +kernel
theorem d_Mo_ends_173 : decode prog_9_method_18_code 173 = .ok (.invokevirtual 110, 3) := by decide +kernel
theorem d_Mo_ends_176 : decode prog_9_method_18_code 176 = .ok (.bipush 10, 2) := by decide +kernel
theorem d_Mo_ends_178 : decode prog_9_method_18_code 178 = .ok (.if_icmp .ge 7, 3) := by decide +kernel
theorem d_Mo_ends_181 : decode prog_9_method_18_code 181 = .ok (.iconst 1, 1) := by decide +kernel
theorem d_Mo_ends_182 : decode prog_9_method_18_code 182 = .ok (.goto 4, 3) := by decide +kernel
theorem d_Mo_ends_185 : decode prog_9_method_18_code 185 = .ok (.iconst 0, 1) := by decide +kernel
theorem d_Mo_ends_186 : decode prog_9_method_18_code 186 = .ok (.istore 4, 2) := by decide +kernel
theorem d_Mo_ends_188 : decode prog_9_method_18_code 188 = .ok (.iinc 5 1, 3) := by decide +kernel
theorem d_Mo_ends_191 : decode prog_9_method_18_code 191 = .ok (.goto (-68), 3) := by decide +kernel
theorem d_Mo_ends_194 : decode prog_9_method_18_code 194 = .ok (.iload 4, 2) := by decide +kernel
theorem d_Mo_ends_196 : decode prog_9_method_18_code 196 = .ok (.ireturn, 1) := by decide +kernel
theorem d_Mo_shared_0 : decode prog_9_method_17_code 0 = .ok (.iconst 0, 1) := by decide +kernel
theorem d_Mo_shared_1 : decode prog_9_method_17_code 1 = .ok (.istore_n 2, 1) := by decide +kernel
theorem d_Mo_shared_2 : decode prog_9_method_17_code 2 = .ok (.iconst 0, 1) := by decide +kernel
theorem d_Mo_shared_3 : decode prog_9_method_17_code 3 = .ok (.istore_n 3, 1) := by decide +kernel
theorem d_Mo_shared_4 : decode prog_9_method_17_code 4 = .ok (.iload_n 3, 1) := by decide +kernel
theorem d_Mo_shared_5 : decode prog_9_method_17_code 5 = .ok (.iconst 5, 1) := by decide +kernel
theorem d_Mo_shared_6 : decode prog_9_method_17_code 6 = .ok (.if_icmp .ge 22, 3) := by decide +kernel
theorem d_Mo_shared_9 : decode prog_9_method_17_code 9 = .ok (.iload_n 2, 1) := by decide +kernel
theorem d_Mo_shared_10 : decode prog_9_method_17_code 10 = .ok (.aload_n 0, 1) := by decide +kernel
theorem d_Mo_shared_11 : decode prog_9_method_17_code 11 = .ok (.getfield 7, 3) := by decide +kernel
theorem d_Mo_shared_14 : decode prog_9_method_17_code 14 = .ok (.iconst 5, 1) := by decide +kernel
theorem d_Mo_shared_15 : decode prog_9_method_17_code 15 = .ok (.iload_n 1, 1) := by decide +kernel
theorem d_Mo_shared_16 : decode prog_9_method_17_code 16 = .ok (.imul, 1) := by decide +kernel
theorem d_Mo_shared_17 : decode prog_9_method_17_code 17 = .ok (.iload_n 3, 1) := by decide +kernel
theorem d_Mo_shared_18 : decode prog_9_method_17_code 18 = .ok (.iadd, 1) := by decide +kernel
theorem d_Mo_shared_19 : decode prog_9_method_17_code 19 = .ok (.iaload, 1) := by decide +kernel
theorem d_Mo_shared_20 : decode prog_9_method_17_code 20 = .ok (.iadd, 1) := by decide +kernel
theorem d_Mo_shared_21 : decode prog_9_method_17_code 21 = .ok (.istore_n 2, 1) := by decide +kernel
theorem d_Mo_shared_22 : decode prog_9_method_17_code 22 = .ok (.iinc 3 1, 3) := by decide +kernel
theorem d_Mo_shared_25 : decode prog_9_method_17_code 25 = .ok (.goto (-21), 3) := by decide +kernel
theorem d_Mo_shared_28 : decode prog_9_method_17_code 28 = .ok (.iload_n 2, 1) := by decide +kernel
theorem d_Mo_shared_29 : decode prog_9_method_17_code 29 = .ok (.ireturn, 1) := by decide +kernel
theorem d_Mo_layOut_0 : decode prog_9_method_21_code 0 = .ok (.iconst 0, 1) := by decide +kernel
theorem d_Mo_layOut_1 : decode prog_9_method_21_code 1 = .ok (.istore_n 2, 1) := by decide +kernel
theorem d_Mo_layOut_2 : decode prog_9_method_21_code 2 = .ok (.iload_n 2, 1) := by decide +kernel
theorem d_Mo_layOut_3 : decode prog_9_method_21_code 3 = .ok (.aload_n 0, 1) := by decide +kernel
theorem d_Mo_layOut_4 : decode prog_9_method_21_code 4 = .ok (.getfield 72, 3) := by decide +kernel
theorem d_Mo_layOut_7 : decode prog_9_method_21_code 7 = .ok (.if_icmp .ge 191, 3) := by decide +kernel
theorem d_Mo_layOut_10 : decode prog_9_method_21_code 10 = .ok (.iconst 0, 1) := by decide +kernel
theorem d_Mo_layOut_11 : decode prog_9_method_21_code 11 = .ok (.istore_n 3, 1) := by decide +kernel
theorem d_Mo_layOut_12 : decode prog_9_method_21_code 12 = .ok (.iload_n 3, 1) := by decide +kernel
theorem d_Mo_layOut_13 : decode prog_9_method_21_code 13 = .ok (.iconst 5, 1) := by decide +kernel
theorem d_Mo_layOut_14 : decode prog_9_method_21_code 14 = .ok (.if_icmp .gt 21, 3) := by decide +kernel
theorem d_Mo_layOut_17 : decode prog_9_method_21_code 17 = .ok (.aload_n 0, 1) := by decide +kernel
theorem d_Mo_layOut_18 : decode prog_9_method_21_code 18 = .ok (.bipush 6, 2) := by decide +kernel
theorem d_Mo_layOut_20 : decode prog_9_method_21_code 20 = .ok (.iload_n 2, 1) := by decide +kernel
theorem d_Mo_layOut_21 : decode prog_9_method_21_code 21 = .ok (.imul, 1) := by decide +kernel
theorem d_Mo_layOut_22 : decode prog_9_method_21_code 22 = .ok (.iload_n 3, 1) := by decide +kernel
theorem d_Mo_layOut_23 : decode prog_9_method_21_code 23 = .ok (.iadd, 1) := by decide +kernel
theorem d_Mo_layOut_24 : decode prog_9_method_21_code 24 = .ok (.lconst 0, 1) := by decide +kernel
theorem d_Mo_layOut_25 : decode prog_9_method_21_code 25 = .ok (.lconst 1, 1) := by decide +kernel
theorem d_Mo_layOut_26 : decode prog_9_method_21_code 26 = .ok (.invokevirtual 118, 3) := by decide +kernel
theorem d_Mo_layOut_29 : decode prog_9_method_21_code 29 = .ok (.iinc 3 1, 3) := by decide +kernel
theorem d_Mo_layOut_32 : decode prog_9_method_21_code 32 = .ok (.goto (-20), 3) := by decide +kernel
theorem d_Mo_layOut_35 : decode prog_9_method_21_code 35 = .ok (.aload_n 0, 1) := by decide +kernel
theorem d_Mo_layOut_36 : decode prog_9_method_21_code 36 = .ok (.getfield 13, 3) := by decide +kernel
theorem d_Mo_layOut_39 : decode prog_9_method_21_code 39 = .ok (.iconst 4, 1) := by decide +kernel
theorem d_Mo_layOut_40 : decode prog_9_method_21_code 40 = .ok (.iload_n 2, 1) := by decide +kernel
theorem d_Mo_layOut_41 : decode prog_9_method_21_code 41 = .ok (.imul, 1) := by decide +kernel
theorem d_Mo_layOut_42 : decode prog_9_method_21_code 42 = .ok (.iload_n 1, 1) := by decide +kernel
theorem d_Mo_layOut_43 : decode prog_9_method_21_code 43 = .ok (.iadd, 1) := by decide +kernel
theorem d_Mo_layOut_44 : decode prog_9_method_21_code 44 = .ok (.baload, 1) := by decide +kernel
theorem d_Mo_layOut_45 : decode prog_9_method_21_code 45 = .ok (.ifCond .ne 15, 3) := by decide +kernel
theorem d_Mo_layOut_48 : decode prog_9_method_21_code 48 = .ok (.aload_n 0, 1) := by decide +kernel
theorem d_Mo_layOut_49 : decode prog_9_method_21_code 49 = .ok (.iload_n 2, 1) := by decide +kernel
theorem d_Mo_layOut_50 : decode prog_9_method_21_code 50 = .ok (.invokevirtual 110, 3) := by decide +kernel
theorem d_Mo_layOut_53 : decode prog_9_method_21_code 53 = .ok (.ifCond .le 7, 3) := by decide +kernel
theorem d_Mo_layOut_56 : decode prog_9_method_21_code 56 = .ok (.iconst 1, 1) := by decide +kernel
theorem d_Mo_layOut_57 : decode prog_9_method_21_code 57 = .ok (.goto 4, 3) := by decide +kernel
theorem d_Mo_layOut_60 : decode prog_9_method_21_code 60 = .ok (.iconst 0, 1) := by decide +kernel
theorem d_Mo_layOut_61 : decode prog_9_method_21_code 61 = .ok (.istore_n 3, 1) := by decide +kernel
theorem d_Mo_layOut_62 : decode prog_9_method_21_code 62 = .ok (.iconst 0, 1) := by decide +kernel
theorem d_Mo_layOut_63 : decode prog_9_method_21_code 63 = .ok (.istore 4, 2) := by decide +kernel
theorem d_Mo_layOut_65 : decode prog_9_method_21_code 65 = .ok (.iload 4, 2) := by decide +kernel
theorem d_Mo_layOut_67 : decode prog_9_method_21_code 67 = .ok (.aload_n 0, 1) := by decide +kernel
theorem d_Mo_layOut_68 : decode prog_9_method_21_code 68 = .ok (.getfield 72, 3) := by decide +kernel
theorem d_Mo_layOut_71 : decode prog_9_method_21_code 71 = .ok (.if_icmp .ge 57, 3) := by decide +kernel
theorem d_Mo_layOut_74 : decode prog_9_method_21_code 74 = .ok (.aload_n 0, 1) := by decide +kernel
theorem d_Mo_layOut_75 : decode prog_9_method_21_code 75 = .ok (.bipush 6, 2) := by decide +kernel
theorem d_Mo_layOut_77 : decode prog_9_method_21_code 77 = .ok (.iload_n 2, 1) := by decide +kernel
theorem d_Mo_layOut_78 : decode prog_9_method_21_code 78 = .ok (.imul, 1) := by decide +kernel
theorem d_Mo_layOut_79 : decode prog_9_method_21_code 79 = .ok (.iload 4, 2) := by decide +kernel
theorem d_Mo_layOut_81 : decode prog_9_method_21_code 81 = .ok (.iadd, 1) := by decide +kernel
theorem d_Mo_layOut_82 : decode prog_9_method_21_code 82 = .ok (.iload 4, 2) := by decide +kernel
theorem d_Mo_layOut_84 : decode prog_9_method_21_code 84 = .ok (.iload_n 2, 1) := by decide +kernel
theorem d_Mo_layOut_85 : decode prog_9_method_21_code 85 = .ok (.if_icmp .ne 9, 3) := by decide +kernel
theorem d_Mo_layOut_88 : decode prog_9_method_21_code 88 = .ok (.ldc2_w 80, 3) := by decide +kernel
theorem d_Mo_layOut_91 : decode prog_9_method_21_code 91 = .ok (.goto 4, 3) := by decide +kernel
theorem d_Mo_layOut_94 : decode prog_9_method_21_code 94 = .ok (.lconst 0, 1) := by decide +kernel
theorem d_Mo_layOut_95 : decode prog_9_method_21_code 95 = .ok (.iload_n 3, 1) := by decide +kernel
theorem d_Mo_layOut_96 : decode prog_9_method_21_code 96 = .ok (.ifCond .eq 17, 3) := by decide +kernel
theorem d_Mo_layOut_99 : decode prog_9_method_21_code 99 = .ok (.aload_n 0, 1) := by decide +kernel
theorem d_Mo_layOut_100 : decode prog_9_method_21_code 100 = .ok (.getfield 7, 3) := by decide +kernel
theorem d_Mo_layOut_103 : decode prog_9_method_21_code 103 = .ok (.iconst 5, 1) := by decide +kernel
theorem d_Mo_layOut_104 : decode prog_9_method_21_code 104 = .ok (.iload_n 2, 1) := by decide +kernel
theorem d_Mo_layOut_105 : decode prog_9_method_21_code 105 = .ok (.imul, 1) := by decide +kernel
theorem d_Mo_layOut_106 : decode prog_9_method_21_code 106 = .ok (.iload 4, 2) := by decide +kernel
theorem d_Mo_layOut_108 : decode prog_9_method_21_code 108 = .ok (.iadd, 1) := by decide +kernel
theorem d_Mo_layOut_109 : decode prog_9_method_21_code 109 = .ok (.iaload, 1) := by decide +kernel
theorem d_Mo_layOut_110 : decode prog_9_method_21_code 110 = .ok (.goto 4, 3) := by decide +kernel
theorem d_Mo_layOut_113 : decode prog_9_method_21_code 113 = .ok (.iconst 0, 1) := by decide +kernel
theorem d_Mo_layOut_114 : decode prog_9_method_21_code 114 = .ok (.i2l, 1) := by decide +kernel
theorem d_Mo_layOut_115 : decode prog_9_method_21_code 115 = .ok (.lsub, 1) := by decide +kernel
theorem d_Mo_layOut_116 : decode prog_9_method_21_code 116 = .ok (.ldc2_w 80, 3) := by decide +kernel
theorem d_Mo_layOut_119 : decode prog_9_method_21_code 119 = .ok (.invokevirtual 118, 3) := by decide +kernel
theorem d_Mo_layOut_122 : decode prog_9_method_21_code 122 = .ok (.iinc 4 1, 3) := by decide +kernel
theorem d_Mo_layOut_125 : decode prog_9_method_21_code 125 = .ok (.goto (-60), 3) := by decide +kernel
theorem d_Mo_layOut_128 : decode prog_9_method_21_code 128 = .ok (.aload_n 0, 1) := by decide +kernel
theorem d_Mo_layOut_129 : decode prog_9_method_21_code 129 = .ok (.getfield 13, 3) := by decide +kernel
theorem d_Mo_layOut_132 : decode prog_9_method_21_code 132 = .ok (.iconst 4, 1) := by decide +kernel
theorem d_Mo_layOut_133 : decode prog_9_method_21_code 133 = .ok (.iload_n 2, 1) := by decide +kernel
theorem d_Mo_layOut_134 : decode prog_9_method_21_code 134 = .ok (.imul, 1) := by decide +kernel
theorem d_Mo_layOut_135 : decode prog_9_method_21_code 135 = .ok (.iload_n 1, 1) := by decide +kernel
theorem d_Mo_layOut_136 : decode prog_9_method_21_code 136 = .ok (.iadd, 1) := by decide +kernel
theorem d_Mo_layOut_137 : decode prog_9_method_21_code 137 = .ok (.baload, 1) := by decide +kernel
theorem d_Mo_layOut_138 : decode prog_9_method_21_code 138 = .ok (.ifCond .eq 18, 3) := by decide +kernel
theorem d_Mo_layOut_141 : decode prog_9_method_21_code 141 = .ok (.aload_n 0, 1) := by decide +kernel
theorem d_Mo_layOut_142 : decode prog_9_method_21_code 142 = .ok (.bipush 6, 2) := by decide +kernel
theorem d_Mo_layOut_144 : decode prog_9_method_21_code 144 = .ok (.iload_n 2, 1) := by decide +kernel
theorem d_Mo_layOut_145 : decode prog_9_method_21_code 145 = .ok (.imul, 1) := by decide +kernel
theorem d_Mo_layOut_146 : decode prog_9_method_21_code 146 = .ok (.iconst 5, 1) := by decide +kernel
theorem d_Mo_layOut_147 : decode prog_9_method_21_code 147 = .ok (.iadd, 1) := by decide +kernel
theorem d_Mo_layOut_148 : decode prog_9_method_21_code 148 = .ok (.lconst 1, 1) := by decide +kernel
theorem d_Mo_layOut_149 : decode prog_9_method_21_code 149 = .ok (.lconst 1, 1) := by decide +kernel
theorem d_Mo_layOut_150 : decode prog_9_method_21_code 150 = .ok (.invokevirtual 118, 3) := by decide +kernel
theorem d_Mo_layOut_153 : decode prog_9_method_21_code 153 = .ok (.goto 39, 3) := by decide +kernel
theorem d_Mo_layOut_156 : decode prog_9_method_21_code 156 = .ok (.iload_n 3, 1) := by decide +kernel
theorem d_Mo_layOut_157 : decode prog_9_method_21_code 157 = .ok (.ifCond .ne 35, 3) := by decide +kernel
theorem d_Mo_layOut_160 : decode prog_9_method_21_code 160 = .ok (.aload_n 0, 1) := by decide +kernel
theorem d_Mo_layOut_161 : decode prog_9_method_21_code 161 = .ok (.getfield 17, 3) := by decide +kernel
theorem d_Mo_layOut_164 : decode prog_9_method_21_code 164 = .ok (.iload_n 2, 1) := by decide +kernel
theorem d_Mo_layOut_165 : decode prog_9_method_21_code 165 = .ok (.baload, 1) := by decide +kernel
theorem d_Mo_layOut_166 : decode prog_9_method_21_code 166 = .ok (.ifCond .eq 26, 3) := by decide +kernel
theorem d_Mo_layOut_169 : decode prog_9_method_21_code 169 = .ok (.aload_n 0, 1) := by decide +kernel
theorem d_Mo_layOut_170 : decode prog_9_method_21_code 170 = .ok (.bipush 6, 2) := by decide +kernel
theorem d_Mo_layOut_172 : decode prog_9_method_21_code 172 = .ok (.iload_n 2, 1) := by decide +kernel
theorem d_Mo_layOut_173 : decode prog_9_method_21_code 173 = .ok (.imul, 1) := by decide +kernel
theorem d_Mo_layOut_174 : decode prog_9_method_21_code 174 = .ok (.iconst 5, 1) := by decide +kernel
theorem d_Mo_layOut_175 : decode prog_9_method_21_code 175 = .ok (.iadd, 1) := by decide +kernel
theorem d_Mo_layOut_176 : decode prog_9_method_21_code 176 = .ok (.bipush 10, 2) := by decide +kernel
theorem d_Mo_layOut_178 : decode prog_9_method_21_code 178 = .ok (.aload_n 0, 1) := by decide +kernel
theorem d_Mo_layOut_179 : decode prog_9_method_21_code 179 = .ok (.getfield 20, 3) := by decide +kernel
theorem d_Mo_layOut_182 : decode prog_9_method_21_code 182 = .ok (.iload_n 2, 1) := by decide +kernel
theorem d_Mo_layOut_183 : decode prog_9_method_21_code 183 = .ok (.iaload, 1) := by decide +kernel
theorem d_Mo_layOut_184 : decode prog_9_method_21_code 184 = .ok (.isub, 1) := by decide +kernel
theorem d_Mo_layOut_185 : decode prog_9_method_21_code 185 = .ok (.i2l, 1) := by decide +kernel
theorem d_Mo_layOut_186 : decode prog_9_method_21_code 186 = .ok (.ldc2_w 80, 3) := by decide +kernel
theorem d_Mo_layOut_189 : decode prog_9_method_21_code 189 = .ok (.invokevirtual 118, 3) := by decide +kernel
theorem d_Mo_layOut_192 : decode prog_9_method_21_code 192 = .ok (.iinc 2 1, 3) := by decide +kernel
theorem d_Mo_layOut_195 : decode prog_9_method_21_code 195 = .ok (.goto (-193), 3) := by decide +kernel
theorem d_Mo_layOut_198 : decode prog_9_method_21_code 198 = .ok (.return_, 1) := by decide +kernel
theorem d_Mo_put_0 : decode prog_9_method_19_code 0 = .ok (.lload_n 2, 1) := by decide +kernel
theorem d_Mo_put_1 : decode prog_9_method_19_code 1 = .ok (.lload 4, 2) := by decide +kernel
theorem d_Mo_put_3 : decode prog_9_method_19_code 3 = .ok (.invokestatic 114, 3) := by decide +kernel
theorem d_Mo_put_6 : decode prog_9_method_19_code 6 = .ok (.lstore 6, 2) := by decide +kernel
theorem d_Mo_put_8 : decode prog_9_method_19_code 8 = .ok (.aload_n 0, 1) := by decide +kernel
theorem d_Mo_put_9 : decode prog_9_method_19_code 9 = .ok (.getfield 66, 3) := by decide +kernel
theorem d_Mo_put_12 : decode prog_9_method_19_code 12 = .ok (.iload_n 1, 1) := by decide +kernel
theorem d_Mo_put_13 : decode prog_9_method_19_code 13 = .ok (.lload 4, 2) := by decide +kernel
theorem d_Mo_put_15 : decode prog_9_method_19_code 15 = .ok (.lconst 0, 1) := by decide +kernel
theorem d_Mo_put_16 : decode prog_9_method_19_code 16 = .ok (.lcmp, 1) := by decide +kernel
theorem d_Mo_put_17 : decode prog_9_method_19_code 17 = .ok (.ifCond .ge 11, 3) := by decide +kernel
theorem d_Mo_put_20 : decode prog_9_method_19_code 20 = .ok (.lload_n 2, 1) := by decide +kernel
theorem d_Mo_put_21 : decode prog_9_method_19_code 21 = .ok (.lload 6, 2) := by decide +kernel
theorem d_Mo_put_23 : decode prog_9_method_19_code 23 = .ok (.ldiv, 1) := by decide +kernel
theorem d_Mo_put_24 : decode prog_9_method_19_code 24 = .ok (.lneg, 1) := by decide +kernel
theorem d_Mo_put_25 : decode prog_9_method_19_code 25 = .ok (.goto 7, 3) := by decide +kernel
theorem d_Mo_put_28 : decode prog_9_method_19_code 28 = .ok (.lload_n 2, 1) := by decide +kernel
theorem d_Mo_put_29 : decode prog_9_method_19_code 29 = .ok (.lload 6, 2) := by decide +kernel
theorem d_Mo_put_31 : decode prog_9_method_19_code 31 = .ok (.ldiv, 1) := by decide +kernel
theorem d_Mo_put_32 : decode prog_9_method_19_code 32 = .ok (.lastore, 1) := by decide +kernel
theorem d_Mo_put_33 : decode prog_9_method_19_code 33 = .ok (.aload_n 0, 1) := by decide +kernel
theorem d_Mo_put_34 : decode prog_9_method_19_code 34 = .ok (.getfield 69, 3) := by decide +kernel
theorem d_Mo_put_37 : decode prog_9_method_19_code 37 = .ok (.iload_n 1, 1) := by decide +kernel
theorem d_Mo_put_38 : decode prog_9_method_19_code 38 = .ok (.lload 4, 2) := by decide +kernel
theorem d_Mo_put_40 : decode prog_9_method_19_code 40 = .ok (.lconst 0, 1) := by decide +kernel
theorem d_Mo_put_41 : decode prog_9_method_19_code 41 = .ok (.lcmp, 1) := by decide +kernel
theorem d_Mo_put_42 : decode prog_9_method_19_code 42 = .ok (.ifCond .ge 12, 3) := by decide +kernel
theorem d_Mo_put_45 : decode prog_9_method_19_code 45 = .ok (.lload 4, 2) := by decide +kernel
theorem d_Mo_put_47 : decode prog_9_method_19_code 47 = .ok (.lload 6, 2) := by decide +kernel
theorem d_Mo_put_49 : decode prog_9_method_19_code 49 = .ok (.ldiv, 1) := by decide +kernel
theorem d_Mo_put_50 : decode prog_9_method_19_code 50 = .ok (.lneg, 1) := by decide +kernel
theorem d_Mo_put_51 : decode prog_9_method_19_code 51 = .ok (.goto 8, 3) := by decide +kernel
theorem d_Mo_put_54 : decode prog_9_method_19_code 54 = .ok (.lload 4, 2) := by decide +kernel
theorem d_Mo_put_56 : decode prog_9_method_19_code 56 = .ok (.lload 6, 2) := by decide +kernel
theorem d_Mo_put_58 : decode prog_9_method_19_code 58 = .ok (.ldiv, 1) := by decide +kernel
theorem d_Mo_put_59 : decode prog_9_method_19_code 59 = .ok (.lastore, 1) := by decide +kernel
theorem d_Mo_put_60 : decode prog_9_method_19_code 60 = .ok (.aload_n 0, 1) := by decide +kernel
theorem d_Mo_put_61 : decode prog_9_method_19_code 61 = .ok (.getfield 69, 3) := by decide +kernel
theorem d_Mo_put_64 : decode prog_9_method_19_code 64 = .ok (.iload_n 1, 1) := by decide +kernel
theorem d_Mo_put_65 : decode prog_9_method_19_code 65 = .ok (.laload, 1) := by decide +kernel
theorem d_Mo_put_66 : decode prog_9_method_19_code 66 = .ok (.lconst 0, 1) := by decide +kernel
theorem d_Mo_put_67 : decode prog_9_method_19_code 67 = .ok (.lcmp, 1) := by decide +kernel
theorem d_Mo_put_68 : decode prog_9_method_19_code 68 = .ok (.ifCond .ge 29, 3) := by decide +kernel
theorem d_Mo_put_71 : decode prog_9_method_19_code 71 = .ok (.aload_n 0, 1) := by decide +kernel
theorem d_Mo_put_72 : decode prog_9_method_19_code 72 = .ok (.getfield 66, 3) := by decide +kernel
theorem d_Mo_put_75 : decode prog_9_method_19_code 75 = .ok (.iload_n 1, 1) := by decide +kernel
theorem d_Mo_put_76 : decode prog_9_method_19_code 76 = .ok (.aload_n 0, 1) := by decide +kernel
theorem d_Mo_put_77 : decode prog_9_method_19_code 77 = .ok (.getfield 66, 3) := by decide +kernel
theorem d_Mo_put_80 : decode prog_9_method_19_code 80 = .ok (.iload_n 1, 1) := by decide +kernel
theorem d_Mo_put_81 : decode prog_9_method_19_code 81 = .ok (.laload, 1) := by decide +kernel
theorem d_Mo_put_82 : decode prog_9_method_19_code 82 = .ok (.lneg, 1) := by decide +kernel
theorem d_Mo_put_83 : decode prog_9_method_19_code 83 = .ok (.lastore, 1) := by decide +kernel
theorem d_Mo_put_84 : decode prog_9_method_19_code 84 = .ok (.aload_n 0, 1) := by decide +kernel
theorem d_Mo_put_85 : decode prog_9_method_19_code 85 = .ok (.getfield 69, 3) := by decide +kernel
theorem d_Mo_put_88 : decode prog_9_method_19_code 88 = .ok (.iload_n 1, 1) := by decide +kernel
theorem d_Mo_put_89 : decode prog_9_method_19_code 89 = .ok (.aload_n 0, 1) := by decide +kernel
theorem d_Mo_put_90 : decode prog_9_method_19_code 90 = .ok (.getfield 69, 3) := by decide +kernel
theorem d_Mo_put_93 : decode prog_9_method_19_code 93 = .ok (.iload_n 1, 1) := by decide +kernel
theorem d_Mo_put_94 : decode prog_9_method_19_code 94 = .ok (.laload, 1) := by decide +kernel
theorem d_Mo_put_95 : decode prog_9_method_19_code 95 = .ok (.lneg, 1) := by decide +kernel
theorem d_Mo_put_96 : decode prog_9_method_19_code 96 = .ok (.lastore, 1) := by decide +kernel
theorem d_Mo_put_97 : decode prog_9_method_19_code 97 = .ok (.return_, 1) := by decide +kernel
theorem d_Mo_common_0 : decode prog_9_method_9_code 0 = .ok (.lload_n 0, 1) := by decide +kernel
theorem d_Mo_common_1 : decode prog_9_method_9_code 1 = .ok (.lconst 0, 1) := by decide +kernel
theorem d_Mo_common_2 : decode prog_9_method_9_code 2 = .ok (.lcmp, 1) := by decide +kernel
theorem d_Mo_common_3 : decode prog_9_method_9_code 3 = .ok (.ifCond .ge 8, 3) := by decide +kernel
theorem d_Mo_common_6 : decode prog_9_method_9_code 6 = .ok (.lload_n 0, 1) := by decide +kernel
theorem d_Mo_common_7 : decode prog_9_method_9_code 7 = .ok (.lneg, 1) := by decide +kernel
theorem d_Mo_common_8 : decode prog_9_method_9_code 8 = .ok (.goto 4, 3) := by decide +kernel
theorem d_Mo_common_11 : decode prog_9_method_9_code 11 = .ok (.lload_n 0, 1) := by decide +kernel
theorem d_Mo_common_12 : decode prog_9_method_9_code 12 = .ok (.lstore 4, 2) := by decide +kernel
theorem d_Mo_common_14 : decode prog_9_method_9_code 14 = .ok (.lload_n 2, 1) := by decide +kernel
theorem d_Mo_common_15 : decode prog_9_method_9_code 15 = .ok (.lstore 6, 2) := by decide +kernel
theorem d_Mo_common_17 : decode prog_9_method_9_code 17 = .ok (.lload 4, 2) := by decide +kernel
theorem d_Mo_common_19 : decode prog_9_method_9_code 19 = .ok (.lconst 0, 1) := by decide +kernel
theorem d_Mo_common_20 : decode prog_9_method_9_code 20 = .ok (.lcmp, 1) := by decide +kernel
theorem d_Mo_common_21 : decode prog_9_method_9_code 21 = .ok (.ifCond .eq 21, 3) := by decide +kernel
theorem d_Mo_common_24 : decode prog_9_method_9_code 24 = .ok (.lload 6, 2) := by decide +kernel
theorem d_Mo_common_26 : decode prog_9_method_9_code 26 = .ok (.lload 4, 2) := by decide +kernel
theorem d_Mo_common_28 : decode prog_9_method_9_code 28 = .ok (.lrem, 1) := by decide +kernel
theorem d_Mo_common_29 : decode prog_9_method_9_code 29 = .ok (.lstore 8, 2) := by decide +kernel
theorem d_Mo_common_31 : decode prog_9_method_9_code 31 = .ok (.lload 4, 2) := by decide +kernel
theorem d_Mo_common_33 : decode prog_9_method_9_code 33 = .ok (.lstore 6, 2) := by decide +kernel
theorem d_Mo_common_35 : decode prog_9_method_9_code 35 = .ok (.lload 8, 2) := by decide +kernel
theorem d_Mo_common_37 : decode prog_9_method_9_code 37 = .ok (.lstore 4, 2) := by decide +kernel
theorem d_Mo_common_39 : decode prog_9_method_9_code 39 = .ok (.goto (-22), 3) := by decide +kernel
theorem d_Mo_common_42 : decode prog_9_method_9_code 42 = .ok (.lload 6, 2) := by decide +kernel
theorem d_Mo_common_44 : decode prog_9_method_9_code 44 = .ok (.lreturn, 1) := by decide +kernel
theorem d_Mo_eliminate_0 : decode prog_9_method_23_code 0 = .ok (.iconst 0, 1) := by decide +kernel
theorem d_Mo_eliminate_1 : decode prog_9_method_23_code 1 = .ok (.istore_n 1, 1) := by decide +kernel
theorem d_Mo_eliminate_2 : decode prog_9_method_23_code 2 = .ok (.iload_n 1, 1) := by decide +kernel
theorem d_Mo_eliminate_3 : decode prog_9_method_23_code 3 = .ok (.aload_n 0, 1) := by decide +kernel
theorem d_Mo_eliminate_4 : decode prog_9_method_23_code 4 = .ok (.getfield 72, 3) := by decide +kernel
theorem d_Mo_eliminate_7 : decode prog_9_method_23_code 7 = .ok (.if_icmp .ge 228, 3) := by decide +kernel
theorem d_Mo_eliminate_10 : decode prog_9_method_23_code 10 = .ok (.iload_n 1, 1) := by decide +kernel
theorem d_Mo_eliminate_11 : decode prog_9_method_23_code 11 = .ok (.istore_n 2, 1) := by decide +kernel
theorem d_Mo_eliminate_12 : decode prog_9_method_23_code 12 = .ok (.aload_n 0, 1) := by decide +kernel
theorem d_Mo_eliminate_13 : decode prog_9_method_23_code 13 = .ok (.getfield 66, 3) := by decide +kernel
theorem d_Mo_eliminate_16 : decode prog_9_method_23_code 16 = .ok (.bipush 6, 2) := by decide +kernel
theorem d_Mo_eliminate_18 : decode prog_9_method_23_code 18 = .ok (.iload_n 2, 1) := by decide +kernel
theorem d_Mo_eliminate_19 : decode prog_9_method_23_code 19 = .ok (.imul, 1) := by decide +kernel
theorem d_Mo_eliminate_20 : decode prog_9_method_23_code 20 = .ok (.iload_n 1, 1) := by decide +kernel
theorem d_Mo_eliminate_21 : decode prog_9_method_23_code 21 = .ok (.iadd, 1) := by decide +kernel
theorem d_Mo_eliminate_22 : decode prog_9_method_23_code 22 = .ok (.laload, 1) := by decide +kernel
theorem d_Mo_eliminate_23 : decode prog_9_method_23_code 23 = .ok (.lconst 0, 1) := by decide +kernel
theorem d_Mo_eliminate_24 : decode prog_9_method_23_code 24 = .ok (.lcmp, 1) := by decide +kernel
theorem d_Mo_eliminate_25 : decode prog_9_method_23_code 25 = .ok (.ifCond .ne 9, 3) := by decide +kernel
theorem d_Mo_eliminate_28 : decode prog_9_method_23_code 28 = .ok (.iinc 2 1, 3) := by decide +kernel
theorem d_Mo_eliminate_31 : decode prog_9_method_23_code 31 = .ok (.goto (-19), 3) := by decide +kernel
theorem d_Mo_eliminate_34 : decode prog_9_method_23_code 34 = .ok (.aload_n 0, 1) := by decide +kernel
theorem d_Mo_eliminate_35 : decode prog_9_method_23_code 35 = .ok (.iload_n 2, 1) := by decide +kernel
theorem d_Mo_eliminate_36 : decode prog_9_method_23_code 36 = .ok (.iload_n 1, 1) := by decide +kernel
theorem d_Mo_eliminate_37 : decode prog_9_method_23_code 37 = .ok (.invokevirtual 122, 3) := by decide +kernel
theorem d_Mo_eliminate_40 : decode prog_9_method_23_code 40 = .ok (.iconst 0, 1) := by decide +kernel
theorem d_Mo_eliminate_41 : decode prog_9_method_23_code 41 = .ok (.istore_n 3, 1) := by decide +kernel
theorem d_Mo_eliminate_42 : decode prog_9_method_23_code 42 = .ok (.iload_n 3, 1) := by decide +kernel
theorem d_Mo_eliminate_43 : decode prog_9_method_23_code 43 = .ok (.aload_n 0, 1) := by decide +kernel
theorem d_Mo_eliminate_44 : decode prog_9_method_23_code 44 = .ok (.getfield 72, 3) := by decide +kernel
theorem d_Mo_eliminate_47 : decode prog_9_method_23_code 47 = .ok (.if_icmp .ge 182, 3) := by decide +kernel
theorem d_Mo_eliminate_50 : decode prog_9_method_23_code 50 = .ok (.iload_n 3, 1) := by decide +kernel
theorem d_Mo_eliminate_51 : decode prog_9_method_23_code 51 = .ok (.iload_n 1, 1) := by decide +kernel
theorem d_Mo_eliminate_52 : decode prog_9_method_23_code 52 = .ok (.if_icmp .eq 171, 3) := by decide +kernel
theorem d_Mo_eliminate_55 : decode prog_9_method_23_code 55 = .ok (.aload_n 0, 1) := by decide +kernel
theorem d_Mo_eliminate_56 : decode prog_9_method_23_code 56 = .ok (.getfield 66, 3) := by decide +kernel
theorem d_Mo_eliminate_59 : decode prog_9_method_23_code 59 = .ok (.bipush 6, 2) := by decide +kernel
theorem d_Mo_eliminate_61 : decode prog_9_method_23_code 61 = .ok (.iload_n 3, 1) := by decide +kernel
theorem d_Mo_eliminate_62 : decode prog_9_method_23_code 62 = .ok (.imul, 1) := by decide +kernel
theorem d_Mo_eliminate_63 : decode prog_9_method_23_code 63 = .ok (.iload_n 1, 1) := by decide +kernel
theorem d_Mo_eliminate_64 : decode prog_9_method_23_code 64 = .ok (.iadd, 1) := by decide +kernel
theorem d_Mo_eliminate_65 : decode prog_9_method_23_code 65 = .ok (.laload, 1) := by decide +kernel
theorem d_Mo_eliminate_66 : decode prog_9_method_23_code 66 = .ok (.lconst 0, 1) := by decide +kernel
theorem d_Mo_eliminate_67 : decode prog_9_method_23_code 67 = .ok (.lcmp, 1) := by decide +kernel
theorem d_Mo_eliminate_68 : decode prog_9_method_23_code 68 = .ok (.ifCond .eq 155, 3) := by decide +kernel
theorem d_Mo_eliminate_71 : decode prog_9_method_23_code 71 = .ok (.aload_n 0, 1) := by decide +kernel
theorem d_Mo_eliminate_72 : decode prog_9_method_23_code 72 = .ok (.getfield 66, 3) := by decide +kernel
theorem d_Mo_eliminate_75 : decode prog_9_method_23_code 75 = .ok (.bipush 6, 2) := by decide +kernel
theorem d_Mo_eliminate_77 : decode prog_9_method_23_code 77 = .ok (.iload_n 3, 1) := by decide +kernel
theorem d_Mo_eliminate_78 : decode prog_9_method_23_code 78 = .ok (.imul, 1) := by decide +kernel
theorem d_Mo_eliminate_79 : decode prog_9_method_23_code 79 = .ok (.iload_n 1, 1) := by decide +kernel
theorem d_Mo_eliminate_80 : decode prog_9_method_23_code 80 = .ok (.iadd, 1) := by decide +kernel
theorem d_Mo_eliminate_81 : decode prog_9_method_23_code 81 = .ok (.laload, 1) := by decide +kernel
theorem d_Mo_eliminate_82 : decode prog_9_method_23_code 82 = .ok (.aload_n 0, 1) := by decide +kernel
theorem d_Mo_eliminate_83 : decode prog_9_method_23_code 83 = .ok (.getfield 69, 3) := by decide +kernel
theorem d_Mo_eliminate_86 : decode prog_9_method_23_code 86 = .ok (.bipush 6, 2) := by decide +kernel
theorem d_Mo_eliminate_88 : decode prog_9_method_23_code 88 = .ok (.iload_n 1, 1) := by decide +kernel
theorem d_Mo_eliminate_89 : decode prog_9_method_23_code 89 = .ok (.imul, 1) := by decide +kernel
theorem d_Mo_eliminate_90 : decode prog_9_method_23_code 90 = .ok (.iload_n 1, 1) := by decide +kernel
theorem d_Mo_eliminate_91 : decode prog_9_method_23_code 91 = .ok (.iadd, 1) := by decide +kernel
theorem d_Mo_eliminate_92 : decode prog_9_method_23_code 92 = .ok (.laload, 1) := by decide +kernel
theorem d_Mo_eliminate_93 : decode prog_9_method_23_code 93 = .ok (.lmul, 1) := by decide +kernel
theorem d_Mo_eliminate_94 : decode prog_9_method_23_code 94 = .ok (.lstore 4, 2) := by decide +kernel
theorem d_Mo_eliminate_96 : decode prog_9_method_23_code 96 = .ok (.aload_n 0, 1) := by decide +kernel
theorem d_Mo_eliminate_97 : decode prog_9_method_23_code 97 = .ok (.getfield 69, 3) := by decide +kernel
theorem d_Mo_eliminate_100 : decode prog_9_method_23_code 100 = .ok (.bipush 6, 2) := by decide +kernel
theorem d_Mo_eliminate_102 : decode prog_9_method_23_code 102 = .ok (.iload_n 3, 1) := by decide +kernel
theorem d_Mo_eliminate_103 : decode prog_9_method_23_code 103 = .ok (.imul, 1) := by decide +kernel
theorem d_Mo_eliminate_104 : decode prog_9_method_23_code 104 = .ok (.iload_n 1, 1) := by decide +kernel
theorem d_Mo_eliminate_105 : decode prog_9_method_23_code 105 = .ok (.iadd, 1) := by decide +kernel
theorem d_Mo_eliminate_106 : decode prog_9_method_23_code 106 = .ok (.laload, 1) := by decide +kernel
theorem d_Mo_eliminate_107 : decode prog_9_method_23_code 107 = .ok (.aload_n 0, 1) := by decide +kernel
theorem d_Mo_eliminate_108 : decode prog_9_method_23_code 108 = .ok (.getfield 66, 3) := by decide +kernel
theorem d_Mo_eliminate_111 : decode prog_9_method_23_code 111 = .ok (.bipush 6, 2) := by decide +kernel
theorem d_Mo_eliminate_113 : decode prog_9_method_23_code 113 = .ok (.iload_n 1, 1) := by decide +kernel
theorem d_Mo_eliminate_114 : decode prog_9_method_23_code 114 = .ok (.imul, 1) := by decide +kernel
theorem d_Mo_eliminate_115 : decode prog_9_method_23_code 115 = .ok (.iload_n 1, 1) := by decide +kernel
theorem d_Mo_eliminate_116 : decode prog_9_method_23_code 116 = .ok (.iadd, 1) := by decide +kernel
theorem d_Mo_eliminate_117 : decode prog_9_method_23_code 117 = .ok (.laload, 1) := by decide +kernel
theorem d_Mo_eliminate_118 : decode prog_9_method_23_code 118 = .ok (.lmul, 1) := by decide +kernel
theorem d_Mo_eliminate_119 : decode prog_9_method_23_code 119 = .ok (.lstore 6, 2) := by decide +kernel
theorem d_Mo_eliminate_121 : decode prog_9_method_23_code 121 = .ok (.lload 4, 2) := by decide +kernel
theorem d_Mo_eliminate_123 : decode prog_9_method_23_code 123 = .ok (.lload 6, 2) := by decide +kernel
theorem d_Mo_eliminate_125 : decode prog_9_method_23_code 125 = .ok (.lconst 0, 1) := by decide +kernel
theorem d_Mo_eliminate_126 : decode prog_9_method_23_code 126 = .ok (.lcmp, 1) := by decide +kernel
theorem d_Mo_eliminate_127 : decode prog_9_method_23_code 127 = .ok (.ifCond .ge 9, 3) := by decide +kernel
theorem d_Mo_eliminate_130 : decode prog_9_method_23_code 130 = .ok (.lload 6, 2) := by decide +kernel
theorem d_Mo_eliminate_132 : decode prog_9_method_23_code 132 = .ok (.lneg, 1) := by decide +kernel
theorem d_Mo_eliminate_133 : decode prog_9_method_23_code 133 = .ok (.goto 5, 3) := by decide +kernel
theorem d_Mo_eliminate_136 : decode prog_9_method_23_code 136 = .ok (.lload 6, 2) := by decide +kernel
theorem d_Mo_eliminate_138 : decode prog_9_method_23_code 138 = .ok (.invokestatic 114, 3) := by decide +kernel
theorem d_Mo_eliminate_141 : decode prog_9_method_23_code 141 = .ok (.lstore 8, 2) := by decide +kernel
theorem d_Mo_eliminate_143 : decode prog_9_method_23_code 143 = .ok (.lload 6, 2) := by decide +kernel
theorem d_Mo_eliminate_145 : decode prog_9_method_23_code 145 = .ok (.lconst 0, 1) := by decide +kernel
theorem d_Mo_eliminate_146 : decode prog_9_method_23_code 146 = .ok (.lcmp, 1) := by decide +kernel
theorem d_Mo_eliminate_147 : decode prog_9_method_23_code 147 = .ok (.ifCond .ge 12, 3) := by decide +kernel
theorem d_Mo_eliminate_150 : decode prog_9_method_23_code 150 = .ok (.lload 4, 2) := by decide +kernel
theorem d_Mo_eliminate_152 : decode prog_9_method_23_code 152 = .ok (.lneg, 1) := by decide +kernel
theorem d_Mo_eliminate_153 : decode prog_9_method_23_code 153 = .ok (.lload 8, 2) := by decide +kernel
theorem d_Mo_eliminate_155 : decode prog_9_method_23_code 155 = .ok (.ldiv, 1) := by decide +kernel
theorem d_Mo_eliminate_156 : decode prog_9_method_23_code 156 = .ok (.goto 8, 3) := by decide +kernel
theorem d_Mo_eliminate_159 : decode prog_9_method_23_code 159 = .ok (.lload 4, 2) := by decide +kernel
theorem d_Mo_eliminate_161 : decode prog_9_method_23_code 161 = .ok (.lload 8, 2) := by decide +kernel
theorem d_Mo_eliminate_163 : decode prog_9_method_23_code 163 = .ok (.ldiv, 1) := by decide +kernel
theorem d_Mo_eliminate_164 : decode prog_9_method_23_code 164 = .ok (.lstore 4, 2) := by decide +kernel
theorem d_Mo_eliminate_166 : decode prog_9_method_23_code 166 = .ok (.lload 6, 2) := by decide +kernel
theorem d_Mo_eliminate_168 : decode prog_9_method_23_code 168 = .ok (.lconst 0, 1) := by decide +kernel
theorem d_Mo_eliminate_169 : decode prog_9_method_23_code 169 = .ok (.lcmp, 1) := by decide +kernel
theorem d_Mo_eliminate_170 : decode prog_9_method_23_code 170 = .ok (.ifCond .ge 9, 3) := by decide +kernel
theorem d_Mo_eliminate_173 : decode prog_9_method_23_code 173 = .ok (.lload 6, 2) := by decide +kernel
theorem d_Mo_eliminate_175 : decode prog_9_method_23_code 175 = .ok (.lneg, 1) := by decide +kernel
theorem d_Mo_eliminate_176 : decode prog_9_method_23_code 176 = .ok (.goto 5, 3) := by decide +kernel
theorem d_Mo_eliminate_179 : decode prog_9_method_23_code 179 = .ok (.lload 6, 2) := by decide +kernel
theorem d_Mo_eliminate_181 : decode prog_9_method_23_code 181 = .ok (.lload 8, 2) := by decide +kernel
theorem d_Mo_eliminate_183 : decode prog_9_method_23_code 183 = .ok (.ldiv, 1) := by decide +kernel
theorem d_Mo_eliminate_184 : decode prog_9_method_23_code 184 = .ok (.lstore 6, 2) := by decide +kernel
theorem d_Mo_eliminate_186 : decode prog_9_method_23_code 186 = .ok (.iconst 0, 1) := by decide +kernel
theorem d_Mo_eliminate_187 : decode prog_9_method_23_code 187 = .ok (.istore 10, 2) := by decide +kernel
theorem d_Mo_eliminate_189 : decode prog_9_method_23_code 189 = .ok (.iload 10, 2) := by decide +kernel
theorem d_Mo_eliminate_191 : decode prog_9_method_23_code 191 = .ok (.iconst 5, 1) := by decide +kernel
theorem d_Mo_eliminate_192 : decode prog_9_method_23_code 192 = .ok (.if_icmp .gt 31, 3) := by decide +kernel
theorem d_Mo_eliminate_195 : decode prog_9_method_23_code 195 = .ok (.aload_n 0, 1) := by decide +kernel
theorem d_Mo_eliminate_196 : decode prog_9_method_23_code 196 = .ok (.bipush 6, 2) := by decide +kernel
theorem d_Mo_eliminate_198 : decode prog_9_method_23_code 198 = .ok (.iload_n 3, 1) := by decide +kernel
theorem d_Mo_eliminate_199 : decode prog_9_method_23_code 199 = .ok (.imul, 1) := by decide +kernel
theorem d_Mo_eliminate_200 : decode prog_9_method_23_code 200 = .ok (.iload 10, 2) := by decide +kernel
theorem d_Mo_eliminate_202 : decode prog_9_method_23_code 202 = .ok (.iadd, 1) := by decide +kernel
theorem d_Mo_eliminate_203 : decode prog_9_method_23_code 203 = .ok (.lload 4, 2) := by decide +kernel
theorem d_Mo_eliminate_205 : decode prog_9_method_23_code 205 = .ok (.lload 6, 2) := by decide +kernel
theorem d_Mo_eliminate_207 : decode prog_9_method_23_code 207 = .ok (.bipush 6, 2) := by decide +kernel
theorem d_Mo_eliminate_209 : decode prog_9_method_23_code 209 = .ok (.iload_n 1, 1) := by decide +kernel
theorem d_Mo_eliminate_210 : decode prog_9_method_23_code 210 = .ok (.imul, 1) := by decide +kernel
theorem d_Mo_eliminate_211 : decode prog_9_method_23_code 211 = .ok (.iload 10, 2) := by decide +kernel
theorem d_Mo_eliminate_213 : decode prog_9_method_23_code 213 = .ok (.iadd, 1) := by decide +kernel
theorem d_Mo_eliminate_214 : decode prog_9_method_23_code 214 = .ok (.invokevirtual 126, 3) := by decide +kernel
theorem d_Mo_eliminate_217 : decode prog_9_method_23_code 217 = .ok (.iinc 10 1, 3) := by decide +kernel
theorem d_Mo_eliminate_220 : decode prog_9_method_23_code 220 = .ok (.goto (-31), 3) := by decide +kernel
theorem d_Mo_eliminate_223 : decode prog_9_method_23_code 223 = .ok (.iinc 3 1, 3) := by decide +kernel
theorem d_Mo_eliminate_226 : decode prog_9_method_23_code 226 = .ok (.goto (-184), 3) := by decide +kernel
theorem d_Mo_eliminate_229 : decode prog_9_method_23_code 229 = .ok (.iinc 1 1, 3) := by decide +kernel
theorem d_Mo_eliminate_232 : decode prog_9_method_23_code 232 = .ok (.goto (-230), 3) := by decide +kernel
theorem d_Mo_eliminate_235 : decode prog_9_method_23_code 235 = .ok (.return_, 1) := by decide +kernel
theorem d_Mo_swap_0 : decode prog_9_method_22_code 0 = .ok (.iconst 0, 1) := by decide +kernel
theorem d_Mo_swap_1 : decode prog_9_method_22_code 1 = .ok (.istore_n 3, 1) := by decide +kernel
theorem d_Mo_swap_2 : decode prog_9_method_22_code 2 = .ok (.iload_n 3, 1) := by decide +kernel
theorem d_Mo_swap_3 : decode prog_9_method_22_code 3 = .ok (.iconst 5, 1) := by decide +kernel
theorem d_Mo_swap_4 : decode prog_9_method_22_code 4 = .ok (.if_icmp .gt 105, 3) := by decide +kernel
theorem d_Mo_swap_7 : decode prog_9_method_22_code 7 = .ok (.aload_n 0, 1) := by decide +kernel
theorem d_Mo_swap_8 : decode prog_9_method_22_code 8 = .ok (.getfield 66, 3) := by decide +kernel
theorem d_Mo_swap_11 : decode prog_9_method_22_code 11 = .ok (.bipush 6, 2) := by decide +kernel
theorem d_Mo_swap_13 : decode prog_9_method_22_code 13 = .ok (.iload_n 1, 1) := by decide +kernel
theorem d_Mo_swap_14 : decode prog_9_method_22_code 14 = .ok (.imul, 1) := by decide +kernel
theorem d_Mo_swap_15 : decode prog_9_method_22_code 15 = .ok (.iload_n 3, 1) := by decide +kernel
theorem d_Mo_swap_16 : decode prog_9_method_22_code 16 = .ok (.iadd, 1) := by decide +kernel
theorem d_Mo_swap_17 : decode prog_9_method_22_code 17 = .ok (.laload, 1) := by decide +kernel
theorem d_Mo_swap_18 : decode prog_9_method_22_code 18 = .ok (.lstore 4, 2) := by decide +kernel
theorem d_Mo_swap_20 : decode prog_9_method_22_code 20 = .ok (.aload_n 0, 1) := by decide +kernel
theorem d_Mo_swap_21 : decode prog_9_method_22_code 21 = .ok (.getfield 69, 3) := by decide +kernel
theorem d_Mo_swap_24 : decode prog_9_method_22_code 24 = .ok (.bipush 6, 2) := by decide +kernel
theorem d_Mo_swap_26 : decode prog_9_method_22_code 26 = .ok (.iload_n 1, 1) := by decide +kernel
theorem d_Mo_swap_27 : decode prog_9_method_22_code 27 = .ok (.imul, 1) := by decide +kernel
theorem d_Mo_swap_28 : decode prog_9_method_22_code 28 = .ok (.iload_n 3, 1) := by decide +kernel
theorem d_Mo_swap_29 : decode prog_9_method_22_code 29 = .ok (.iadd, 1) := by decide +kernel
theorem d_Mo_swap_30 : decode prog_9_method_22_code 30 = .ok (.laload, 1) := by decide +kernel
theorem d_Mo_swap_31 : decode prog_9_method_22_code 31 = .ok (.lstore 6, 2) := by decide +kernel
theorem d_Mo_swap_33 : decode prog_9_method_22_code 33 = .ok (.aload_n 0, 1) := by decide +kernel
theorem d_Mo_swap_34 : decode prog_9_method_22_code 34 = .ok (.getfield 66, 3) := by decide +kernel
theorem d_Mo_swap_37 : decode prog_9_method_22_code 37 = .ok (.bipush 6, 2) := by decide +kernel
theorem d_Mo_swap_39 : decode prog_9_method_22_code 39 = .ok (.iload_n 1, 1) := by decide +kernel
theorem d_Mo_swap_40 : decode prog_9_method_22_code 40 = .ok (.imul, 1) := by decide +kernel
theorem d_Mo_swap_41 : decode prog_9_method_22_code 41 = .ok (.iload_n 3, 1) := by decide +kernel
theorem d_Mo_swap_42 : decode prog_9_method_22_code 42 = .ok (.iadd, 1) := by decide +kernel
theorem d_Mo_swap_43 : decode prog_9_method_22_code 43 = .ok (.aload_n 0, 1) := by decide +kernel
theorem d_Mo_swap_44 : decode prog_9_method_22_code 44 = .ok (.getfield 66, 3) := by decide +kernel
theorem d_Mo_swap_47 : decode prog_9_method_22_code 47 = .ok (.bipush 6, 2) := by decide +kernel
theorem d_Mo_swap_49 : decode prog_9_method_22_code 49 = .ok (.iload_n 2, 1) := by decide +kernel
theorem d_Mo_swap_50 : decode prog_9_method_22_code 50 = .ok (.imul, 1) := by decide +kernel
theorem d_Mo_swap_51 : decode prog_9_method_22_code 51 = .ok (.iload_n 3, 1) := by decide +kernel
theorem d_Mo_swap_52 : decode prog_9_method_22_code 52 = .ok (.iadd, 1) := by decide +kernel
theorem d_Mo_swap_53 : decode prog_9_method_22_code 53 = .ok (.laload, 1) := by decide +kernel
theorem d_Mo_swap_54 : decode prog_9_method_22_code 54 = .ok (.lastore, 1) := by decide +kernel
theorem d_Mo_swap_55 : decode prog_9_method_22_code 55 = .ok (.aload_n 0, 1) := by decide +kernel
theorem d_Mo_swap_56 : decode prog_9_method_22_code 56 = .ok (.getfield 69, 3) := by decide +kernel
theorem d_Mo_swap_59 : decode prog_9_method_22_code 59 = .ok (.bipush 6, 2) := by decide +kernel
theorem d_Mo_swap_61 : decode prog_9_method_22_code 61 = .ok (.iload_n 1, 1) := by decide +kernel
theorem d_Mo_swap_62 : decode prog_9_method_22_code 62 = .ok (.imul, 1) := by decide +kernel
theorem d_Mo_swap_63 : decode prog_9_method_22_code 63 = .ok (.iload_n 3, 1) := by decide +kernel
theorem d_Mo_swap_64 : decode prog_9_method_22_code 64 = .ok (.iadd, 1) := by decide +kernel
theorem d_Mo_swap_65 : decode prog_9_method_22_code 65 = .ok (.aload_n 0, 1) := by decide +kernel
theorem d_Mo_swap_66 : decode prog_9_method_22_code 66 = .ok (.getfield 69, 3) := by decide +kernel
theorem d_Mo_swap_69 : decode prog_9_method_22_code 69 = .ok (.bipush 6, 2) := by decide +kernel
theorem d_Mo_swap_71 : decode prog_9_method_22_code 71 = .ok (.iload_n 2, 1) := by decide +kernel
theorem d_Mo_swap_72 : decode prog_9_method_22_code 72 = .ok (.imul, 1) := by decide +kernel
theorem d_Mo_swap_73 : decode prog_9_method_22_code 73 = .ok (.iload_n 3, 1) := by decide +kernel
theorem d_Mo_swap_74 : decode prog_9_method_22_code 74 = .ok (.iadd, 1) := by decide +kernel
theorem d_Mo_swap_75 : decode prog_9_method_22_code 75 = .ok (.laload, 1) := by decide +kernel
theorem d_Mo_swap_76 : decode prog_9_method_22_code 76 = .ok (.lastore, 1) := by decide +kernel
theorem d_Mo_swap_77 : decode prog_9_method_22_code 77 = .ok (.aload_n 0, 1) := by decide +kernel
theorem d_Mo_swap_78 : decode prog_9_method_22_code 78 = .ok (.getfield 66, 3) := by decide +kernel
theorem d_Mo_swap_81 : decode prog_9_method_22_code 81 = .ok (.bipush 6, 2) := by decide +kernel
theorem d_Mo_swap_83 : decode prog_9_method_22_code 83 = .ok (.iload_n 2, 1) := by decide +kernel
theorem d_Mo_swap_84 : decode prog_9_method_22_code 84 = .ok (.imul, 1) := by decide +kernel
theorem d_Mo_swap_85 : decode prog_9_method_22_code 85 = .ok (.iload_n 3, 1) := by decide +kernel
theorem d_Mo_swap_86 : decode prog_9_method_22_code 86 = .ok (.iadd, 1) := by decide +kernel
theorem d_Mo_swap_87 : decode prog_9_method_22_code 87 = .ok (.lload 4, 2) := by decide +kernel
theorem d_Mo_swap_89 : decode prog_9_method_22_code 89 = .ok (.lastore, 1) := by decide +kernel
theorem d_Mo_swap_90 : decode prog_9_method_22_code 90 = .ok (.aload_n 0, 1) := by decide +kernel
theorem d_Mo_swap_91 : decode prog_9_method_22_code 91 = .ok (.getfield 69, 3) := by decide +kernel
theorem d_Mo_swap_94 : decode prog_9_method_22_code 94 = .ok (.bipush 6, 2) := by decide +kernel
theorem d_Mo_swap_96 : decode prog_9_method_22_code 96 = .ok (.iload_n 2, 1) := by decide +kernel
theorem d_Mo_swap_97 : decode prog_9_method_22_code 97 = .ok (.imul, 1) := by decide +kernel
theorem d_Mo_swap_98 : decode prog_9_method_22_code 98 = .ok (.iload_n 3, 1) := by decide +kernel
theorem d_Mo_swap_99 : decode prog_9_method_22_code 99 = .ok (.iadd, 1) := by decide +kernel
theorem d_Mo_swap_100 : decode prog_9_method_22_code 100 = .ok (.lload 6, 2) := by decide +kernel
theorem d_Mo_swap_102 : decode prog_9_method_22_code 102 = .ok (.lastore, 1) := by decide +kernel
theorem d_Mo_swap_103 : decode prog_9_method_22_code 103 = .ok (.iinc 3 1, 3) := by decide +kernel
theorem d_Mo_swap_106 : decode prog_9_method_22_code 106 = .ok (.goto (-104), 3) := by decide +kernel
theorem d_Mo_swap_109 : decode prog_9_method_22_code 109 = .ok (.return_, 1) := by decide +kernel
theorem d_Mo_lessen_0 : decode prog_9_method_20_code 0 = .ok (.lload_n 2, 1) := by decide +kernel
theorem d_Mo_lessen_1 : decode prog_9_method_20_code 1 = .ok (.aload_n 0, 1) := by decide +kernel
theorem d_Mo_lessen_2 : decode prog_9_method_20_code 2 = .ok (.getfield 66, 3) := by decide +kernel
theorem d_Mo_lessen_5 : decode prog_9_method_20_code 5 = .ok (.iload 6, 2) := by decide +kernel
theorem d_Mo_lessen_7 : decode prog_9_method_20_code 7 = .ok (.laload, 1) := by decide +kernel
theorem d_Mo_lessen_8 : decode prog_9_method_20_code 8 = .ok (.lmul, 1) := by decide +kernel
theorem d_Mo_lessen_9 : decode prog_9_method_20_code 9 = .ok (.lstore 7, 2) := by decide +kernel
theorem d_Mo_lessen_11 : decode prog_9_method_20_code 11 = .ok (.lload 4, 2) := by decide +kernel
theorem d_Mo_lessen_13 : decode prog_9_method_20_code 13 = .ok (.aload_n 0, 1) := by decide +kernel
theorem d_Mo_lessen_14 : decode prog_9_method_20_code 14 = .ok (.getfield 69, 3) := by decide +kernel
theorem d_Mo_lessen_17 : decode prog_9_method_20_code 17 = .ok (.iload 6, 2) := by decide +kernel
theorem d_Mo_lessen_19 : decode prog_9_method_20_code 19 = .ok (.laload, 1) := by decide +kernel
theorem d_Mo_lessen_20 : decode prog_9_method_20_code 20 = .ok (.lmul, 1) := by decide +kernel
theorem d_Mo_lessen_21 : decode prog_9_method_20_code 21 = .ok (.lstore 9, 2) := by decide +kernel
theorem d_Mo_lessen_23 : decode prog_9_method_20_code 23 = .ok (.lload 7, 2) := by decide +kernel
theorem d_Mo_lessen_25 : decode prog_9_method_20_code 25 = .ok (.lload 9, 2) := by decide +kernel
theorem d_Mo_lessen_27 : decode prog_9_method_20_code 27 = .ok (.invokestatic 114, 3) := by decide +kernel
theorem d_Mo_lessen_30 : decode prog_9_method_20_code 30 = .ok (.lstore 11, 2) := by decide +kernel
theorem d_Mo_lessen_32 : decode prog_9_method_20_code 32 = .ok (.lload 7, 2) := by decide +kernel
theorem d_Mo_lessen_34 : decode prog_9_method_20_code 34 = .ok (.lload 11, 2) := by decide +kernel
theorem d_Mo_lessen_36 : decode prog_9_method_20_code 36 = .ok (.ldiv, 1) := by decide +kernel
theorem d_Mo_lessen_37 : decode prog_9_method_20_code 37 = .ok (.lstore 7, 2) := by decide +kernel
theorem d_Mo_lessen_39 : decode prog_9_method_20_code 39 = .ok (.lload 9, 2) := by decide +kernel
theorem d_Mo_lessen_41 : decode prog_9_method_20_code 41 = .ok (.lload 11, 2) := by decide +kernel
theorem d_Mo_lessen_43 : decode prog_9_method_20_code 43 = .ok (.ldiv, 1) := by decide +kernel
theorem d_Mo_lessen_44 : decode prog_9_method_20_code 44 = .ok (.lstore 9, 2) := by decide +kernel
theorem d_Mo_lessen_46 : decode prog_9_method_20_code 46 = .ok (.aload_n 0, 1) := by decide +kernel
theorem d_Mo_lessen_47 : decode prog_9_method_20_code 47 = .ok (.iload_n 1, 1) := by decide +kernel
theorem d_Mo_lessen_48 : decode prog_9_method_20_code 48 = .ok (.aload_n 0, 1) := by decide +kernel
theorem d_Mo_lessen_49 : decode prog_9_method_20_code 49 = .ok (.getfield 66, 3) := by decide +kernel
theorem d_Mo_lessen_52 : decode prog_9_method_20_code 52 = .ok (.iload_n 1, 1) := by decide +kernel
theorem d_Mo_lessen_53 : decode prog_9_method_20_code 53 = .ok (.laload, 1) := by decide +kernel
theorem d_Mo_lessen_54 : decode prog_9_method_20_code 54 = .ok (.lload 9, 2) := by decide +kernel
theorem d_Mo_lessen_56 : decode prog_9_method_20_code 56 = .ok (.lmul, 1) := by decide +kernel
theorem d_Mo_lessen_57 : decode prog_9_method_20_code 57 = .ok (.lload 7, 2) := by decide +kernel
theorem d_Mo_lessen_59 : decode prog_9_method_20_code 59 = .ok (.aload_n 0, 1) := by decide +kernel
theorem d_Mo_lessen_60 : decode prog_9_method_20_code 60 = .ok (.getfield 69, 3) := by decide +kernel
theorem d_Mo_lessen_63 : decode prog_9_method_20_code 63 = .ok (.iload_n 1, 1) := by decide +kernel
theorem d_Mo_lessen_64 : decode prog_9_method_20_code 64 = .ok (.laload, 1) := by decide +kernel
theorem d_Mo_lessen_65 : decode prog_9_method_20_code 65 = .ok (.lmul, 1) := by decide +kernel
theorem d_Mo_lessen_66 : decode prog_9_method_20_code 66 = .ok (.lsub, 1) := by decide +kernel
theorem d_Mo_lessen_67 : decode prog_9_method_20_code 67 = .ok (.aload_n 0, 1) := by decide +kernel
theorem d_Mo_lessen_68 : decode prog_9_method_20_code 68 = .ok (.getfield 69, 3) := by decide +kernel
theorem d_Mo_lessen_71 : decode prog_9_method_20_code 71 = .ok (.iload_n 1, 1) := by decide +kernel
theorem d_Mo_lessen_72 : decode prog_9_method_20_code 72 = .ok (.laload, 1) := by decide +kernel
theorem d_Mo_lessen_73 : decode prog_9_method_20_code 73 = .ok (.lload 9, 2) := by decide +kernel
theorem d_Mo_lessen_75 : decode prog_9_method_20_code 75 = .ok (.lmul, 1) := by decide +kernel
theorem d_Mo_lessen_76 : decode prog_9_method_20_code 76 = .ok (.invokevirtual 118, 3) := by decide +kernel
theorem d_Mo_lessen_79 : decode prog_9_method_20_code 79 = .ok (.return_, 1) := by decide +kernel
theorem d_Mo_noteBare_0 : decode prog_9_method_25_code 0 = .ok (.iconst 0, 1) := by decide +kernel
theorem d_Mo_noteBare_1 : decode prog_9_method_25_code 1 = .ok (.istore_n 1, 1) := by decide +kernel
theorem d_Mo_noteBare_2 : decode prog_9_method_25_code 2 = .ok (.iload_n 1, 1) := by decide +kernel
theorem d_Mo_noteBare_3 : decode prog_9_method_25_code 3 = .ok (.iconst 4, 1) := by decide +kernel
theorem d_Mo_noteBare_4 : decode prog_9_method_25_code 4 = .ok (.if_icmp .ge 256, 3) := by decide +kernel
theorem d_Mo_noteBare_7 : decode prog_9_method_25_code 7 = .ok (.iconst 0, 1) := by decide +kernel
theorem d_Mo_noteBare_8 : decode prog_9_method_25_code 8 = .ok (.istore_n 2, 1) := by decide +kernel
theorem d_Mo_noteBare_9 : decode prog_9_method_25_code 9 = .ok (.iconst 0, 1) := by decide +kernel
theorem d_Mo_noteBare_10 : decode prog_9_method_25_code 10 = .ok (.istore_n 3, 1) := by decide +kernel
theorem d_Mo_noteBare_11 : decode prog_9_method_25_code 11 = .ok (.iload_n 3, 1) := by decide +kernel
theorem d_Mo_noteBare_12 : decode prog_9_method_25_code 12 = .ok (.aload_n 0, 1) := by decide +kernel
theorem d_Mo_noteBare_13 : decode prog_9_method_25_code 13 = .ok (.getfield 97, 3) := by decide +kernel
theorem d_Mo_noteBare_16 : decode prog_9_method_25_code 16 = .ok (.if_icmp .ge 45, 3) := by decide +kernel
theorem d_Mo_noteBare_19 : decode prog_9_method_25_code 19 = .ok (.iload_n 2, 1) := by decide +kernel
theorem d_Mo_noteBare_20 : decode prog_9_method_25_code 20 = .ok (.aload_n 0, 1) := by decide +kernel
theorem d_Mo_noteBare_21 : decode prog_9_method_25_code 21 = .ok (.getfield 26, 3) := by decide +kernel
theorem d_Mo_noteBare_24 : decode prog_9_method_25_code 24 = .ok (.iload_n 3, 1) := by decide +kernel
theorem d_Mo_noteBare_25 : decode prog_9_method_25_code 25 = .ok (.iaload, 1) := by decide +kernel
theorem d_Mo_noteBare_26 : decode prog_9_method_25_code 26 = .ok (.iload_n 1, 1) := by decide +kernel
theorem d_Mo_noteBare_27 : decode prog_9_method_25_code 27 = .ok (.if_icmp .ne 25, 3) := by decide +kernel
theorem d_Mo_noteBare_30 : decode prog_9_method_25_code 30 = .ok (.aload_n 0, 1) := by decide +kernel
theorem d_Mo_noteBare_31 : decode prog_9_method_25_code 31 = .ok (.getfield 35, 3) := by decide +kernel
theorem d_Mo_noteBare_34 : decode prog_9_method_25_code 34 = .ok (.iload_n 3, 1) := by decide +kernel
theorem d_Mo_noteBare_35 : decode prog_9_method_25_code 35 = .ok (.laload, 1) := by decide +kernel
theorem d_Mo_noteBare_36 : decode prog_9_method_25_code 36 = .ok (.lconst 0, 1) := by decide +kernel
theorem d_Mo_noteBare_37 : decode prog_9_method_25_code 37 = .ok (.lcmp, 1) := by decide +kernel
theorem d_Mo_noteBare_38 : decode prog_9_method_25_code 38 = .ok (.ifCond .le 14, 3) := by decide +kernel
theorem d_Mo_noteBare_41 : decode prog_9_method_25_code 41 = .ok (.iconst 1, 1) := by decide +kernel
theorem d_Mo_noteBare_42 : decode prog_9_method_25_code 42 = .ok (.aload_n 0, 1) := by decide +kernel
theorem d_Mo_noteBare_43 : decode prog_9_method_25_code 43 = .ok (.getfield 23, 3) := by decide +kernel
theorem d_Mo_noteBare_46 : decode prog_9_method_25_code 46 = .ok (.iload_n 3, 1) := by decide +kernel
theorem d_Mo_noteBare_47 : decode prog_9_method_25_code 47 = .ok (.iaload, 1) := by decide +kernel
theorem d_Mo_noteBare_48 : decode prog_9_method_25_code 48 = .ok (.ishl, 1) := by decide +kernel
theorem d_Mo_noteBare_49 : decode prog_9_method_25_code 49 = .ok (.goto 4, 3) := by decide +kernel
theorem d_Mo_noteBare_52 : decode prog_9_method_25_code 52 = .ok (.iconst 0, 1) := by decide +kernel
theorem d_Mo_noteBare_53 : decode prog_9_method_25_code 53 = .ok (.ior, 1) := by decide +kernel
theorem d_Mo_noteBare_54 : decode prog_9_method_25_code 54 = .ok (.istore_n 2, 1) := by decide +kernel
theorem d_Mo_noteBare_55 : decode prog_9_method_25_code 55 = .ok (.iinc 3 1, 3) := by decide +kernel
theorem d_Mo_noteBare_58 : decode prog_9_method_25_code 58 = .ok (.goto (-47), 3) := by decide +kernel
theorem d_Mo_noteBare_61 : decode prog_9_method_25_code 61 = .ok (.iconst 0, 1) := by decide +kernel
theorem d_Mo_noteBare_62 : decode prog_9_method_25_code 62 = .ok (.istore_n 3, 1) := by decide +kernel
theorem d_Mo_noteBare_63 : decode prog_9_method_25_code 63 = .ok (.iload_n 3, 1) := by decide +kernel
theorem d_Mo_noteBare_64 : decode prog_9_method_25_code 64 = .ok (.iconst 5, 1) := by decide +kernel
theorem d_Mo_noteBare_65 : decode prog_9_method_25_code 65 = .ok (.if_icmp .ge 107, 3) := by decide +kernel
theorem d_Mo_noteBare_68 : decode prog_9_method_25_code 68 = .ok (.iconst 0, 1) := by decide +kernel
theorem d_Mo_noteBare_69 : decode prog_9_method_25_code 69 = .ok (.istore 4, 2) := by decide +kernel
theorem d_Mo_noteBare_71 : decode prog_9_method_25_code 71 = .ok (.iload 4, 2) := by decide +kernel
theorem d_Mo_noteBare_73 : decode prog_9_method_25_code 73 = .ok (.aload_n 0, 1) := by decide +kernel
theorem d_Mo_noteBare_74 : decode prog_9_method_25_code 74 = .ok (.getfield 72, 3) := by decide +kernel
theorem d_Mo_noteBare_77 : decode prog_9_method_25_code 77 = .ok (.if_icmp .ge 89, 3) := by decide +kernel
theorem d_Mo_noteBare_80 : decode prog_9_method_25_code 80 = .ok (.iconst 0, 1) := by decide +kernel
theorem d_Mo_noteBare_81 : decode prog_9_method_25_code 81 = .ok (.istore 5, 2) := by decide +kernel
theorem d_Mo_noteBare_83 : decode prog_9_method_25_code 83 = .ok (.iload 5, 2) := by decide +kernel
theorem d_Mo_noteBare_85 : decode prog_9_method_25_code 85 = .ok (.aload_n 0, 1) := by decide +kernel
theorem d_Mo_noteBare_86 : decode prog_9_method_25_code 86 = .ok (.getfield 72, 3) := by decide +kernel
theorem d_Mo_noteBare_89 : decode prog_9_method_25_code 89 = .ok (.if_icmp .ge 71, 3) := by decide +kernel
theorem d_Mo_noteBare_92 : decode prog_9_method_25_code 92 = .ok (.iload_n 2, 1) := by decide +kernel
theorem d_Mo_noteBare_93 : decode prog_9_method_25_code 93 = .ok (.iload 4, 2) := by decide +kernel
theorem d_Mo_noteBare_95 : decode prog_9_method_25_code 95 = .ok (.ishr, 1) := by decide +kernel
theorem d_Mo_noteBare_96 : decode prog_9_method_25_code 96 = .ok (.iconst 1, 1) := by decide +kernel
theorem d_Mo_noteBare_97 : decode prog_9_method_25_code 97 = .ok (.iand, 1) := by decide +kernel
theorem d_Mo_noteBare_98 : decode prog_9_method_25_code 98 = .ok (.iconst 1, 1) := by decide +kernel
theorem d_Mo_noteBare_99 : decode prog_9_method_25_code 99 = .ok (.if_icmp .ne 36, 3) := by decide +kernel
theorem d_Mo_noteBare_102 : decode prog_9_method_25_code 102 = .ok (.aload_n 0, 1) := by decide +kernel
theorem d_Mo_noteBare_103 : decode prog_9_method_25_code 103 = .ok (.getfield 13, 3) := by decide +kernel
theorem d_Mo_noteBare_106 : decode prog_9_method_25_code 106 = .ok (.iconst 4, 1) := by decide +kernel
theorem d_Mo_noteBare_107 : decode prog_9_method_25_code 107 = .ok (.iload 4, 2) := by decide +kernel
theorem d_Mo_noteBare_109 : decode prog_9_method_25_code 109 = .ok (.imul, 1) := by decide +kernel
theorem d_Mo_noteBare_110 : decode prog_9_method_25_code 110 = .ok (.iload_n 1, 1) := by decide +kernel
theorem d_Mo_noteBare_111 : decode prog_9_method_25_code 111 = .ok (.iadd, 1) := by decide +kernel
theorem d_Mo_noteBare_112 : decode prog_9_method_25_code 112 = .ok (.baload, 1) := by decide +kernel
theorem d_Mo_noteBare_113 : decode prog_9_method_25_code 113 = .ok (.ifCond .ne 22, 3) := by decide +kernel
theorem d_Mo_noteBare_116 : decode prog_9_method_25_code 116 = .ok (.aload_n 0, 1) := by decide +kernel
theorem d_Mo_noteBare_117 : decode prog_9_method_25_code 117 = .ok (.getfield 7, 3) := by decide +kernel
theorem d_Mo_noteBare_120 : decode prog_9_method_25_code 120 = .ok (.iconst 5, 1) := by decide +kernel
theorem d_Mo_noteBare_121 : decode prog_9_method_25_code 121 = .ok (.iload 4, 2) := by decide +kernel
theorem d_Mo_noteBare_123 : decode prog_9_method_25_code 123 = .ok (.imul, 1) := by decide +kernel
theorem d_Mo_noteBare_124 : decode prog_9_method_25_code 124 = .ok (.iload 5, 2) := by decide +kernel
theorem d_Mo_noteBare_126 : decode prog_9_method_25_code 126 = .ok (.iadd, 1) := by decide +kernel
theorem d_Mo_noteBare_127 : decode prog_9_method_25_code 127 = .ok (.iaload, 1) := by decide +kernel
theorem d_Mo_noteBare_128 : decode prog_9_method_25_code 128 = .ok (.ifCond .le 7, 3) := by decide +kernel
theorem d_Mo_noteBare_131 : decode prog_9_method_25_code 131 = .ok (.iconst 1, 1) := by decide +kernel
theorem d_Mo_noteBare_132 : decode prog_9_method_25_code 132 = .ok (.goto 4, 3) := by decide +kernel
theorem d_Mo_noteBare_135 : decode prog_9_method_25_code 135 = .ok (.iconst 0, 1) := by decide +kernel
theorem d_Mo_noteBare_136 : decode prog_9_method_25_code 136 = .ok (.istore 6, 2) := by decide +kernel
theorem d_Mo_noteBare_138 : decode prog_9_method_25_code 138 = .ok (.iload_n 2, 1) := by decide +kernel
theorem d_Mo_noteBare_139 : decode prog_9_method_25_code 139 = .ok (.iload 6, 2) := by decide +kernel
theorem d_Mo_noteBare_141 : decode prog_9_method_25_code 141 = .ok (.ifCond .eq 10, 3) := by decide +kernel
theorem d_Mo_noteBare_144 : decode prog_9_method_25_code 144 = .ok (.iconst 1, 1) := by decide +kernel
theorem d_Mo_noteBare_145 : decode prog_9_method_25_code 145 = .ok (.iload 5, 2) := by decide +kernel
theorem d_Mo_noteBare_147 : decode prog_9_method_25_code 147 = .ok (.ishl, 1) := by decide +kernel
theorem d_Mo_noteBare_148 : decode prog_9_method_25_code 148 = .ok (.goto 4, 3) := by decide +kernel
theorem d_Mo_noteBare_151 : decode prog_9_method_25_code 151 = .ok (.iconst 0, 1) := by decide +kernel
theorem d_Mo_noteBare_152 : decode prog_9_method_25_code 152 = .ok (.ior, 1) := by decide +kernel
theorem d_Mo_noteBare_153 : decode prog_9_method_25_code 153 = .ok (.istore_n 2, 1) := by decide +kernel
theorem d_Mo_noteBare_154 : decode prog_9_method_25_code 154 = .ok (.iinc 5 1, 3) := by decide +kernel
theorem d_Mo_noteBare_157 : decode prog_9_method_25_code 157 = .ok (.goto (-74), 3) := by decide +kernel
theorem d_Mo_noteBare_160 : decode prog_9_method_25_code 160 = .ok (.iinc 4 1, 3) := by decide +kernel
theorem d_Mo_noteBare_163 : decode prog_9_method_25_code 163 = .ok (.goto (-92), 3) := by decide +kernel
theorem d_Mo_noteBare_166 : decode prog_9_method_25_code 166 = .ok (.iinc 3 1, 3) := by decide +kernel
theorem d_Mo_noteBare_169 : decode prog_9_method_25_code 169 = .ok (.goto (-106), 3) := by decide +kernel
theorem d_Mo_noteBare_172 : decode prog_9_method_25_code 172 = .ok (.iconst 0, 1) := by decide +kernel
theorem d_Mo_noteBare_173 : decode prog_9_method_25_code 173 = .ok (.istore_n 3, 1) := by decide +kernel
theorem d_Mo_noteBare_174 : decode prog_9_method_25_code 174 = .ok (.iload_n 3, 1) := by decide +kernel
theorem d_Mo_noteBare_175 : decode prog_9_method_25_code 175 = .ok (.aload_n 0, 1) := by decide +kernel
theorem d_Mo_noteBare_176 : decode prog_9_method_25_code 176 = .ok (.getfield 72, 3) := by decide +kernel
theorem d_Mo_noteBare_179 : decode prog_9_method_25_code 179 = .ok (.if_icmp .ge 75, 3) := by decide +kernel
theorem d_Mo_noteBare_182 : decode prog_9_method_25_code 182 = .ok (.aload_n 0, 1) := by decide +kernel
theorem d_Mo_noteBare_183 : decode prog_9_method_25_code 183 = .ok (.getfield 13, 3) := by decide +kernel
theorem d_Mo_noteBare_186 : decode prog_9_method_25_code 186 = .ok (.iconst 4, 1) := by decide +kernel
theorem d_Mo_noteBare_187 : decode prog_9_method_25_code 187 = .ok (.iload_n 3, 1) := by decide +kernel
theorem d_Mo_noteBare_188 : decode prog_9_method_25_code 188 = .ok (.imul, 1) := by decide +kernel
theorem d_Mo_noteBare_189 : decode prog_9_method_25_code 189 = .ok (.iload_n 1, 1) := by decide +kernel
theorem d_Mo_noteBare_190 : decode prog_9_method_25_code 190 = .ok (.iadd, 1) := by decide +kernel
theorem d_Mo_noteBare_191 : decode prog_9_method_25_code 191 = .ok (.baload, 1) := by decide +kernel
theorem d_Mo_noteBare_192 : decode prog_9_method_25_code 192 = .ok (.ifCond .ne 24, 3) := by decide +kernel
theorem d_Mo_noteBare_195 : decode prog_9_method_25_code 195 = .ok (.aload_n 0, 1) := by decide +kernel
theorem d_Mo_noteBare_196 : decode prog_9_method_25_code 196 = .ok (.iload_n 3, 1) := by decide +kernel
theorem d_Mo_noteBare_197 : decode prog_9_method_25_code 197 = .ok (.invokevirtual 110, 3) := by decide +kernel
theorem d_Mo_noteBare_200 : decode prog_9_method_25_code 200 = .ok (.ifCond .ne 16, 3) := by decide +kernel
theorem d_Mo_noteBare_203 : decode prog_9_method_25_code 203 = .ok (.aload_n 0, 1) := by decide +kernel
theorem d_Mo_noteBare_204 : decode prog_9_method_25_code 204 = .ok (.getfield 17, 3) := by decide +kernel
theorem d_Mo_noteBare_207 : decode prog_9_method_25_code 207 = .ok (.iload_n 3, 1) := by decide +kernel
theorem d_Mo_noteBare_208 : decode prog_9_method_25_code 208 = .ok (.baload, 1) := by decide +kernel
theorem d_Mo_noteBare_209 : decode prog_9_method_25_code 209 = .ok (.ifCond .ne 7, 3) := by decide +kernel
theorem d_Mo_noteBare_212 : decode prog_9_method_25_code 212 = .ok (.iconst 1, 1) := by decide +kernel
theorem d_Mo_noteBare_213 : decode prog_9_method_25_code 213 = .ok (.goto 4, 3) := by decide +kernel
theorem d_Mo_noteBare_216 : decode prog_9_method_25_code 216 = .ok (.iconst 0, 1) := by decide +kernel
theorem d_Mo_noteBare_217 : decode prog_9_method_25_code 217 = .ok (.istore 4, 2) := by decide +kernel
theorem d_Mo_noteBare_219 : decode prog_9_method_25_code 219 = .ok (.aload_n 0, 1) := by decide +kernel
theorem d_Mo_noteBare_220 : decode prog_9_method_25_code 220 = .ok (.getfield 51, 3) := by decide +kernel
theorem d_Mo_noteBare_223 : decode prog_9_method_25_code 223 = .ok (.iconst 4, 1) := by decide +kernel
theorem d_Mo_noteBare_224 : decode prog_9_method_25_code 224 = .ok (.iload_n 3, 1) := by decide +kernel
theorem d_Mo_noteBare_225 : decode prog_9_method_25_code 225 = .ok (.imul, 1) := by decide +kernel
theorem d_Mo_noteBare_226 : decode prog_9_method_25_code 226 = .ok (.iload_n 1, 1) := by decide +kernel
theorem d_Mo_noteBare_227 : decode prog_9_method_25_code 227 = .ok (.iadd, 1) := by decide +kernel
theorem d_Mo_noteBare_228 : decode prog_9_method_25_code 228 = .ok (.iload 4, 2) := by decide +kernel
theorem d_Mo_noteBare_230 : decode prog_9_method_25_code 230 = .ok (.ifCond .eq 16, 3) := by decide +kernel
theorem d_Mo_noteBare_233 : decode prog_9_method_25_code 233 = .ok (.iload_n 2, 1) := by decide +kernel
theorem d_Mo_noteBare_234 : decode prog_9_method_25_code 234 = .ok (.iload_n 3, 1) := by decide +kernel
theorem d_Mo_noteBare_235 : decode prog_9_method_25_code 235 = .ok (.ishr, 1) := by decide +kernel
theorem d_Mo_noteBare_236 : decode prog_9_method_25_code 236 = .ok (.iconst 1, 1) := by decide +kernel
theorem d_Mo_noteBare_237 : decode prog_9_method_25_code 237 = .ok (.iand, 1) := by decide +kernel
theorem d_Mo_noteBare_238 : decode prog_9_method_25_code 238 = .ok (.iconst 1, 1) := by decide +kernel
theorem d_Mo_noteBare_239 : decode prog_9_method_25_code 239 = .ok (.if_icmp .ne 7, 3) := by decide +kernel
theorem d_Mo_noteBare_242 : decode prog_9_method_25_code 242 = .ok (.iconst 1, 1) := by decide +kernel
theorem d_Mo_noteBare_243 : decode prog_9_method_25_code 243 = .ok (.goto 4, 3) := by decide +kernel
theorem d_Mo_noteBare_246 : decode prog_9_method_25_code 246 = .ok (.iconst 0, 1) := by decide +kernel
theorem d_Mo_noteBare_247 : decode prog_9_method_25_code 247 = .ok (.bastore, 1) := by decide +kernel
theorem d_Mo_noteBare_248 : decode prog_9_method_25_code 248 = .ok (.iinc 3 1, 3) := by decide +kernel
theorem d_Mo_noteBare_251 : decode prog_9_method_25_code 251 = .ok (.goto (-77), 3) := by decide +kernel
theorem d_Mo_noteBare_254 : decode prog_9_method_25_code 254 = .ok (.iinc 1 1, 3) := by decide +kernel
theorem d_Mo_noteBare_257 : decode prog_9_method_25_code 257 = .ok (.goto (-255), 3) := by decide +kernel
theorem d_Mo_noteBare_260 : decode prog_9_method_25_code 260 = .ok (.return_, 1) := by decide +kernel
theorem d_Mo_counted_0 : decode prog_9_method_30_code 0 = .ok (.aload_n 0, 1) := by decide +kernel
theorem d_Mo_counted_1 : decode prog_9_method_30_code 1 = .ok (.getfield 141, 3) := by decide +kernel
theorem d_Mo_counted_4 : decode prog_9_method_30_code 4 = .ok (.ifCond .eq 27, 3) := by decide +kernel
theorem d_Mo_counted_7 : decode prog_9_method_30_code 7 = .ok (.iload_n 1, 1) := by decide +kernel
theorem d_Mo_counted_8 : decode prog_9_method_30_code 8 = .ok (.invokestatic 94, 3) := by decide +kernel
theorem d_Mo_counted_11 : decode prog_9_method_30_code 11 = .ok (.ifCond .eq 20, 3) := by decide +kernel
theorem d_Mo_counted_14 : decode prog_9_method_30_code 14 = .ok (.iload_n 2, 1) := by decide +kernel
theorem d_Mo_counted_15 : decode prog_9_method_30_code 15 = .ok (.invokestatic 102, 3) := by decide +kernel
theorem d_Mo_counted_18 : decode prog_9_method_30_code 18 = .ok (.ifCond .eq 13, 3) := by decide +kernel
theorem d_Mo_counted_21 : decode prog_9_method_30_code 21 = .ok (.iload_n 3, 1) := by decide +kernel
theorem d_Mo_counted_22 : decode prog_9_method_30_code 22 = .ok (.i2l, 1) := by decide +kernel
theorem d_Mo_counted_23 : decode prog_9_method_30_code 23 = .ok (.lconst 0, 1) := by decide +kernel
theorem d_Mo_counted_24 : decode prog_9_method_30_code 24 = .ok (.lconst 1, 1) := by decide +kernel
theorem d_Mo_counted_25 : decode prog_9_method_30_code 25 = .ok (.invokestatic 82, 3) := by decide +kernel
theorem d_Mo_counted_28 : decode prog_9_method_30_code 28 = .ok (.ifCond .ne 7, 3) := by decide +kernel
theorem d_Mo_counted_31 : decode prog_9_method_30_code 31 = .ok (.ldc2_w 172, 3) := by decide +kernel
theorem d_Mo_counted_34 : decode prog_9_method_30_code 34 = .ok (.lreturn, 1) := by decide +kernel
theorem d_Mo_counted_35 : decode prog_9_method_30_code 35 = .ok (.aload_n 0, 1) := by decide +kernel
theorem d_Mo_counted_36 : decode prog_9_method_30_code 36 = .ok (.iload_n 1, 1) := by decide +kernel
theorem d_Mo_counted_37 : decode prog_9_method_30_code 37 = .ok (.iload_n 2, 1) := by decide +kernel
theorem d_Mo_counted_38 : decode prog_9_method_30_code 38 = .ok (.iconst (-1), 1) := by decide +kernel
theorem d_Mo_counted_39 : decode prog_9_method_30_code 39 = .ok (.invokevirtual 174, 3) := by decide +kernel
theorem d_Mo_counted_42 : decode prog_9_method_30_code 42 = .ok (.iload_n 3, 1) := by decide +kernel
theorem d_Mo_counted_43 : decode prog_9_method_30_code 43 = .ok (.ifCond .ne 10, 3) := by decide +kernel
theorem d_Mo_counted_46 : decode prog_9_method_30_code 46 = .ok (.aload_n 0, 1) := by decide +kernel
theorem d_Mo_counted_47 : decode prog_9_method_30_code 47 = .ok (.getfield 154, 3) := by decide +kernel
theorem d_Mo_counted_50 : decode prog_9_method_30_code 50 = .ok (.goto 7, 3) := by decide +kernel
theorem d_Mo_counted_53 : decode prog_9_method_30_code 53 = .ok (.aload_n 0, 1) := by decide +kernel
theorem d_Mo_counted_54 : decode prog_9_method_30_code 54 = .ok (.getfield 158, 3) := by decide +kernel
theorem d_Mo_counted_57 : decode prog_9_method_30_code 57 = .ok (.lreturn, 1) := by decide +kernel
theorem d_Mo_count_0 : decode prog_9_method_29_code 0 = .ok (.aload_n 0, 1) := by decide +kernel
theorem d_Mo_count_1 : decode prog_9_method_29_code 1 = .ok (.invokevirtual 165, 3) := by decide +kernel
theorem d_Mo_count_4 : decode prog_9_method_29_code 4 = .ok (.aload_n 0, 1) := by decide +kernel
theorem d_Mo_count_5 : decode prog_9_method_29_code 5 = .ok (.iload_n 1, 1) := by decide +kernel
theorem d_Mo_count_6 : decode prog_9_method_29_code 6 = .ok (.iload_n 2, 1) := by decide +kernel
theorem d_Mo_count_7 : decode prog_9_method_29_code 7 = .ok (.iload_n 3, 1) := by decide +kernel
theorem d_Mo_count_8 : decode prog_9_method_29_code 8 = .ok (.iconst (-1), 1) := by decide +kernel
theorem d_Mo_count_9 : decode prog_9_method_29_code 9 = .ok (.invokevirtual 168, 3) := by decide +kernel
theorem d_Mo_count_12 : decode prog_9_method_29_code 12 = .ok (.iload_n 1, 1) := by decide +kernel
theorem d_Mo_count_13 : decode prog_9_method_29_code 13 = .ok (.iconst 3, 1) := by decide +kernel
theorem d_Mo_count_14 : decode prog_9_method_29_code 14 = .ok (.if_icmp .ne 18, 3) := by decide +kernel
theorem d_Mo_count_17 : decode prog_9_method_29_code 17 = .ok (.iload_n 3, 1) := by decide +kernel
theorem d_Mo_count_18 : decode prog_9_method_29_code 18 = .ok (.ifCond .gt 14, 3) := by decide +kernel
theorem d_Mo_count_21 : decode prog_9_method_29_code 21 = .ok (.aload_n 0, 1) := by decide +kernel
theorem d_Mo_count_22 : decode prog_9_method_29_code 22 = .ok (.aload_n 0, 1) := by decide +kernel
theorem d_Mo_count_23 : decode prog_9_method_29_code 23 = .ok (.getfield 54, 3) := by decide +kernel
theorem d_Mo_count_26 : decode prog_9_method_29_code 26 = .ok (.iload_n 2, 1) := by decide +kernel
theorem d_Mo_count_27 : decode prog_9_method_29_code 27 = .ok (.laload, 1) := by decide +kernel
theorem d_Mo_count_28 : decode prog_9_method_29_code 28 = .ok (.lconst 1, 1) := by decide +kernel
theorem d_Mo_count_29 : decode prog_9_method_29_code 29 = .ok (.invokevirtual 161, 3) := by decide +kernel
theorem d_Mo_count_32 : decode prog_9_method_29_code 32 = .ok (.return_, 1) := by decide +kernel
theorem d_Mo_nothing_0 : decode prog_9_method_26_code 0 = .ok (.aload_n 0, 1) := by decide +kernel
theorem d_Mo_nothing_1 : decode prog_9_method_26_code 1 = .ok (.lconst 0, 1) := by decide +kernel
theorem d_Mo_nothing_2 : decode prog_9_method_26_code 2 = .ok (.putfield 154, 3) := by decide +kernel
theorem d_Mo_nothing_5 : decode prog_9_method_26_code 5 = .ok (.aload_n 0, 1) := by decide +kernel
theorem d_Mo_nothing_6 : decode prog_9_method_26_code 6 = .ok (.lconst 1, 1) := by decide +kernel
theorem d_Mo_nothing_7 : decode prog_9_method_26_code 7 = .ok (.putfield 158, 3) := by decide +kernel
theorem d_Mo_nothing_10 : decode prog_9_method_26_code 10 = .ok (.return_, 1) := by decide +kernel
theorem d_Mo_sum_0 : decode prog_9_method_28_code 0 = .ok (.iconst 0, 1) := by decide +kernel
theorem d_Mo_sum_1 : decode prog_9_method_28_code 1 = .ok (.istore 5, 2) := by decide +kernel
theorem d_Mo_sum_3 : decode prog_9_method_28_code 3 = .ok (.iload 5, 2) := by decide +kernel
theorem d_Mo_sum_5 : decode prog_9_method_28_code 5 = .ok (.aload_n 0, 1) := by decide +kernel
theorem d_Mo_sum_6 : decode prog_9_method_28_code 6 = .ok (.getfield 148, 3) := by decide +kernel
theorem d_Mo_sum_9 : decode prog_9_method_28_code 9 = .ok (.if_icmp .ge 139, 3) := by decide +kernel
theorem d_Mo_sum_12 : decode prog_9_method_28_code 12 = .ok (.aload_n 0, 1) := by decide +kernel
theorem d_Mo_sum_13 : decode prog_9_method_28_code 13 = .ok (.getfield 26, 3) := by decide +kernel
theorem d_Mo_sum_16 : decode prog_9_method_28_code 16 = .ok (.iload 5, 2) := by decide +kernel
theorem d_Mo_sum_18 : decode prog_9_method_28_code 18 = .ok (.iaload, 1) := by decide +kernel
theorem d_Mo_sum_19 : decode prog_9_method_28_code 19 = .ok (.iload_n 1, 1) := by decide +kernel
theorem d_Mo_sum_20 : decode prog_9_method_28_code 20 = .ok (.if_icmp .ne 50, 3) := by decide +kernel
theorem d_Mo_sum_23 : decode prog_9_method_28_code 23 = .ok (.aload_n 0, 1) := by decide +kernel
theorem d_Mo_sum_24 : decode prog_9_method_28_code 24 = .ok (.getfield 29, 3) := by decide +kernel
theorem d_Mo_sum_27 : decode prog_9_method_28_code 27 = .ok (.iload 5, 2) := by decide +kernel
theorem d_Mo_sum_29 : decode prog_9_method_28_code 29 = .ok (.iaload, 1) := by decide +kernel
theorem d_Mo_sum_30 : decode prog_9_method_28_code 30 = .ok (.iload_n 2, 1) := by decide +kernel
theorem d_Mo_sum_31 : decode prog_9_method_28_code 31 = .ok (.if_icmp .ne 39, 3) := by decide +kernel
theorem d_Mo_sum_34 : decode prog_9_method_28_code 34 = .ok (.iload_n 3, 1) := by decide +kernel
theorem d_Mo_sum_35 : decode prog_9_method_28_code 35 = .ok (.ifCond .lt 14, 3) := by decide +kernel
theorem d_Mo_sum_38 : decode prog_9_method_28_code 38 = .ok (.aload_n 0, 1) := by decide +kernel
theorem d_Mo_sum_39 : decode prog_9_method_28_code 39 = .ok (.getfield 32, 3) := by decide +kernel
theorem d_Mo_sum_42 : decode prog_9_method_28_code 42 = .ok (.iload 5, 2) := by decide +kernel
theorem d_Mo_sum_44 : decode prog_9_method_28_code 44 = .ok (.iaload, 1) := by decide +kernel
theorem d_Mo_sum_45 : decode prog_9_method_28_code 45 = .ok (.iload_n 3, 1) := by decide +kernel
theorem d_Mo_sum_46 : decode prog_9_method_28_code 46 = .ok (.if_icmp .ne 24, 3) := by decide +kernel
theorem d_Mo_sum_49 : decode prog_9_method_28_code 49 = .ok (.iload 4, 2) := by decide +kernel
theorem d_Mo_sum_51 : decode prog_9_method_28_code 51 = .ok (.ifCond .lt 15, 3) := by decide +kernel
theorem d_Mo_sum_54 : decode prog_9_method_28_code 54 = .ok (.aload_n 0, 1) := by decide +kernel
theorem d_Mo_sum_55 : decode prog_9_method_28_code 55 = .ok (.getfield 23, 3) := by decide +kernel
theorem d_Mo_sum_58 : decode prog_9_method_28_code 58 = .ok (.iload 5, 2) := by decide +kernel
theorem d_Mo_sum_60 : decode prog_9_method_28_code 60 = .ok (.iaload, 1) := by decide +kernel
theorem d_Mo_sum_61 : decode prog_9_method_28_code 61 = .ok (.iload 4, 2) := by decide +kernel
theorem d_Mo_sum_63 : decode prog_9_method_28_code 63 = .ok (.if_icmp .ne 7, 3) := by decide +kernel
theorem d_Mo_sum_66 : decode prog_9_method_28_code 66 = .ok (.iconst 1, 1) := by decide +kernel
theorem d_Mo_sum_67 : decode prog_9_method_28_code 67 = .ok (.goto 4, 3) := by decide +kernel
theorem d_Mo_sum_70 : decode prog_9_method_28_code 70 = .ok (.iconst 0, 1) := by decide +kernel
theorem d_Mo_sum_71 : decode prog_9_method_28_code 71 = .ok (.istore 6, 2) := by decide +kernel
theorem d_Mo_sum_73 : decode prog_9_method_28_code 73 = .ok (.iload 6, 2) := by decide +kernel
theorem d_Mo_sum_75 : decode prog_9_method_28_code 75 = .ok (.ifCond .eq 67, 3) := by decide +kernel
theorem d_Mo_sum_78 : decode prog_9_method_28_code 78 = .ok (.iconst 4, 1) := by decide +kernel
theorem d_Mo_sum_79 : decode prog_9_method_28_code 79 = .ok (.aload_n 0, 1) := by decide +kernel
theorem d_Mo_sum_80 : decode prog_9_method_28_code 80 = .ok (.getfield 23, 3) := by decide +kernel
theorem d_Mo_sum_83 : decode prog_9_method_28_code 83 = .ok (.iload 5, 2) := by decide +kernel
theorem d_Mo_sum_85 : decode prog_9_method_28_code 85 = .ok (.iaload, 1) := by decide +kernel
theorem d_Mo_sum_86 : decode prog_9_method_28_code 86 = .ok (.imul, 1) := by decide +kernel
theorem d_Mo_sum_87 : decode prog_9_method_28_code 87 = .ok (.iload_n 1, 1) := by decide +kernel
theorem d_Mo_sum_88 : decode prog_9_method_28_code 88 = .ok (.iadd, 1) := by decide +kernel
theorem d_Mo_sum_89 : decode prog_9_method_28_code 89 = .ok (.istore 7, 2) := by decide +kernel
theorem d_Mo_sum_91 : decode prog_9_method_28_code 91 = .ok (.aload_n 0, 1) := by decide +kernel
theorem d_Mo_sum_92 : decode prog_9_method_28_code 92 = .ok (.getfield 35, 3) := by decide +kernel
theorem d_Mo_sum_95 : decode prog_9_method_28_code 95 = .ok (.iload 5, 2) := by decide +kernel
theorem d_Mo_sum_97 : decode prog_9_method_28_code 97 = .ok (.laload, 1) := by decide +kernel
theorem d_Mo_sum_98 : decode prog_9_method_28_code 98 = .ok (.aload_n 0, 1) := by decide +kernel
theorem d_Mo_sum_99 : decode prog_9_method_28_code 99 = .ok (.getfield 48, 3) := by decide +kernel
theorem d_Mo_sum_102 : decode prog_9_method_28_code 102 = .ok (.iload 7, 2) := by decide +kernel
theorem d_Mo_sum_104 : decode prog_9_method_28_code 104 = .ok (.laload, 1) := by decide +kernel
theorem d_Mo_sum_105 : decode prog_9_method_28_code 105 = .ok (.invokestatic 114, 3) := by decide +kernel
theorem d_Mo_sum_108 : decode prog_9_method_28_code 108 = .ok (.lstore 8, 2) := by decide +kernel
theorem d_Mo_sum_110 : decode prog_9_method_28_code 110 = .ok (.aload_n 0, 1) := by decide +kernel
theorem d_Mo_sum_111 : decode prog_9_method_28_code 111 = .ok (.aload_n 0, 1) := by decide +kernel
theorem d_Mo_sum_112 : decode prog_9_method_28_code 112 = .ok (.getfield 35, 3) := by decide +kernel
theorem d_Mo_sum_115 : decode prog_9_method_28_code 115 = .ok (.iload 5, 2) := by decide +kernel
theorem d_Mo_sum_117 : decode prog_9_method_28_code 117 = .ok (.laload, 1) := by decide +kernel
theorem d_Mo_sum_118 : decode prog_9_method_28_code 118 = .ok (.lload 8, 2) := by decide +kernel
theorem d_Mo_sum_120 : decode prog_9_method_28_code 120 = .ok (.ldiv, 1) := by decide +kernel
theorem d_Mo_sum_121 : decode prog_9_method_28_code 121 = .ok (.aload_n 0, 1) := by decide +kernel
theorem d_Mo_sum_122 : decode prog_9_method_28_code 122 = .ok (.getfield 45, 3) := by decide +kernel
theorem d_Mo_sum_125 : decode prog_9_method_28_code 125 = .ok (.iload 7, 2) := by decide +kernel
theorem d_Mo_sum_127 : decode prog_9_method_28_code 127 = .ok (.laload, 1) := by decide +kernel
theorem d_Mo_sum_128 : decode prog_9_method_28_code 128 = .ok (.lmul, 1) := by decide +kernel
theorem d_Mo_sum_129 : decode prog_9_method_28_code 129 = .ok (.aload_n 0, 1) := by decide +kernel
theorem d_Mo_sum_130 : decode prog_9_method_28_code 130 = .ok (.getfield 48, 3) := by decide +kernel
theorem d_Mo_sum_133 : decode prog_9_method_28_code 133 = .ok (.iload 7, 2) := by decide +kernel
theorem d_Mo_sum_135 : decode prog_9_method_28_code 135 = .ok (.laload, 1) := by decide +kernel
theorem d_Mo_sum_136 : decode prog_9_method_28_code 136 = .ok (.lload 8, 2) := by decide +kernel
theorem d_Mo_sum_138 : decode prog_9_method_28_code 138 = .ok (.ldiv, 1) := by decide +kernel
theorem d_Mo_sum_139 : decode prog_9_method_28_code 139 = .ok (.invokevirtual 161, 3) := by decide +kernel
theorem d_Mo_sum_142 : decode prog_9_method_28_code 142 = .ok (.iinc 5 1, 3) := by decide +kernel
theorem d_Mo_sum_145 : decode prog_9_method_28_code 145 = .ok (.goto (-142), 3) := by decide +kernel
theorem d_Mo_sum_148 : decode prog_9_method_28_code 148 = .ok (.return_, 1) := by decide +kernel
theorem d_Mo_add_0 : decode prog_9_method_27_code 0 = .ok (.aload_n 0, 1) := by decide +kernel
theorem d_Mo_add_1 : decode prog_9_method_27_code 1 = .ok (.getfield 158, 3) := by decide +kernel
theorem d_Mo_add_4 : decode prog_9_method_27_code 4 = .ok (.aload_n 0, 1) := by decide +kernel
theorem d_Mo_add_5 : decode prog_9_method_27_code 5 = .ok (.getfield 158, 3) := by decide +kernel
theorem d_Mo_add_8 : decode prog_9_method_27_code 8 = .ok (.lload_n 3, 1) := by decide +kernel
theorem d_Mo_add_9 : decode prog_9_method_27_code 9 = .ok (.invokestatic 114, 3) := by decide +kernel
theorem d_Mo_add_12 : decode prog_9_method_27_code 12 = .ok (.ldiv, 1) := by decide +kernel
theorem d_Mo_add_13 : decode prog_9_method_27_code 13 = .ok (.lload_n 3, 1) := by decide +kernel
theorem d_Mo_add_14 : decode prog_9_method_27_code 14 = .ok (.lmul, 1) := by decide +kernel
theorem d_Mo_add_15 : decode prog_9_method_27_code 15 = .ok (.lstore 5, 2) := by decide +kernel
theorem d_Mo_add_17 : decode prog_9_method_27_code 17 = .ok (.aload_n 0, 1) := by decide +kernel
theorem d_Mo_add_18 : decode prog_9_method_27_code 18 = .ok (.getfield 154, 3) := by decide +kernel
theorem d_Mo_add_21 : decode prog_9_method_27_code 21 = .ok (.lload 5, 2) := by decide +kernel
theorem d_Mo_add_23 : decode prog_9_method_27_code 23 = .ok (.aload_n 0, 1) := by decide +kernel
theorem d_Mo_add_24 : decode prog_9_method_27_code 24 = .ok (.getfield 158, 3) := by decide +kernel
theorem d_Mo_add_27 : decode prog_9_method_27_code 27 = .ok (.ldiv, 1) := by decide +kernel
theorem d_Mo_add_28 : decode prog_9_method_27_code 28 = .ok (.lmul, 1) := by decide +kernel
theorem d_Mo_add_29 : decode prog_9_method_27_code 29 = .ok (.lload_n 1, 1) := by decide +kernel
theorem d_Mo_add_30 : decode prog_9_method_27_code 30 = .ok (.lload 5, 2) := by decide +kernel
theorem d_Mo_add_32 : decode prog_9_method_27_code 32 = .ok (.lload_n 3, 1) := by decide +kernel
theorem d_Mo_add_33 : decode prog_9_method_27_code 33 = .ok (.ldiv, 1) := by decide +kernel
theorem d_Mo_add_34 : decode prog_9_method_27_code 34 = .ok (.lmul, 1) := by decide +kernel
theorem d_Mo_add_35 : decode prog_9_method_27_code 35 = .ok (.ladd, 1) := by decide +kernel
theorem d_Mo_add_36 : decode prog_9_method_27_code 36 = .ok (.lstore 7, 2) := by decide +kernel
theorem d_Mo_add_38 : decode prog_9_method_27_code 38 = .ok (.lload 7, 2) := by decide +kernel
theorem d_Mo_add_40 : decode prog_9_method_27_code 40 = .ok (.lload 5, 2) := by decide +kernel
theorem d_Mo_add_42 : decode prog_9_method_27_code 42 = .ok (.invokestatic 114, 3) := by decide +kernel
theorem d_Mo_add_45 : decode prog_9_method_27_code 45 = .ok (.lstore 9, 2) := by decide +kernel
theorem d_Mo_add_47 : decode prog_9_method_27_code 47 = .ok (.aload_n 0, 1) := by decide +kernel
theorem d_Mo_add_48 : decode prog_9_method_27_code 48 = .ok (.lload 7, 2) := by decide +kernel
theorem d_Mo_add_50 : decode prog_9_method_27_code 50 = .ok (.lload 9, 2) := by decide +kernel
theorem d_Mo_add_52 : decode prog_9_method_27_code 52 = .ok (.ldiv, 1) := by decide +kernel
theorem d_Mo_add_53 : decode prog_9_method_27_code 53 = .ok (.putfield 154, 3) := by decide +kernel
theorem d_Mo_add_56 : decode prog_9_method_27_code 56 = .ok (.aload_n 0, 1) := by decide +kernel
theorem d_Mo_add_57 : decode prog_9_method_27_code 57 = .ok (.lload 5, 2) := by decide +kernel
theorem d_Mo_add_59 : decode prog_9_method_27_code 59 = .ok (.lload 9, 2) := by decide +kernel
theorem d_Mo_add_61 : decode prog_9_method_27_code 61 = .ok (.ldiv, 1) := by decide +kernel
theorem d_Mo_add_62 : decode prog_9_method_27_code 62 = .ok (.putfield 158, 3) := by decide +kernel
theorem d_Mo_add_65 : decode prog_9_method_27_code 65 = .ok (.return_, 1) := by decide +kernel
theorem d_Mo_rate_0 : decode prog_9_method_31_code 0 = .ok (.aload_n 0, 1) := by decide +kernel
theorem d_Mo_rate_1 : decode prog_9_method_31_code 1 = .ok (.getfield 141, 3) := by decide +kernel
theorem d_Mo_rate_4 : decode prog_9_method_31_code 4 = .ok (.ifCond .eq 27, 3) := by decide +kernel
theorem d_Mo_rate_7 : decode prog_9_method_31_code 7 = .ok (.iload_n 1, 1) := by decide +kernel
theorem d_Mo_rate_8 : decode prog_9_method_31_code 8 = .ok (.invokestatic 94, 3) := by decide +kernel
theorem d_Mo_rate_11 : decode prog_9_method_31_code 11 = .ok (.ifCond .eq 20, 3) := by decide +kernel
theorem d_Mo_rate_14 : decode prog_9_method_31_code 14 = .ok (.iload_n 2, 1) := by decide +kernel
theorem d_Mo_rate_15 : decode prog_9_method_31_code 15 = .ok (.invokestatic 102, 3) := by decide +kernel
theorem d_Mo_rate_18 : decode prog_9_method_31_code 18 = .ok (.ifCond .eq 13, 3) := by decide +kernel
theorem d_Mo_rate_21 : decode prog_9_method_31_code 21 = .ok (.iload_n 3, 1) := by decide +kernel
theorem d_Mo_rate_22 : decode prog_9_method_31_code 22 = .ok (.i2l, 1) := by decide +kernel
theorem d_Mo_rate_23 : decode prog_9_method_31_code 23 = .ok (.lconst 0, 1) := by decide +kernel
theorem d_Mo_rate_24 : decode prog_9_method_31_code 24 = .ok (.lconst 1, 1) := by decide +kernel
theorem d_Mo_rate_25 : decode prog_9_method_31_code 25 = .ok (.invokestatic 82, 3) := by decide +kernel
theorem d_Mo_rate_28 : decode prog_9_method_31_code 28 = .ok (.ifCond .ne 7, 3) := by decide +kernel
theorem d_Mo_rate_31 : decode prog_9_method_31_code 31 = .ok (.ldc2_w 172, 3) := by decide +kernel
theorem d_Mo_rate_34 : decode prog_9_method_31_code 34 = .ok (.lreturn, 1) := by decide +kernel
theorem d_Mo_rate_35 : decode prog_9_method_31_code 35 = .ok (.aload_n 0, 1) := by decide +kernel
theorem d_Mo_rate_36 : decode prog_9_method_31_code 36 = .ok (.getfield 42, 3) := by decide +kernel
theorem d_Mo_rate_39 : decode prog_9_method_31_code 39 = .ok (.bipush 10, 2) := by decide +kernel
theorem d_Mo_rate_41 : decode prog_9_method_31_code 41 = .ok (.iload_n 1, 1) := by decide +kernel
theorem d_Mo_rate_42 : decode prog_9_method_31_code 42 = .ok (.imul, 1) := by decide +kernel
theorem d_Mo_rate_43 : decode prog_9_method_31_code 43 = .ok (.iload_n 2, 1) := by decide +kernel
theorem d_Mo_rate_44 : decode prog_9_method_31_code 44 = .ok (.iadd, 1) := by decide +kernel
theorem d_Mo_rate_45 : decode prog_9_method_31_code 45 = .ok (.laload, 1) := by decide +kernel
theorem d_Mo_rate_46 : decode prog_9_method_31_code 46 = .ok (.lstore 4, 2) := by decide +kernel
theorem d_Mo_rate_48 : decode prog_9_method_31_code 48 = .ok (.lload 4, 2) := by decide +kernel
theorem d_Mo_rate_50 : decode prog_9_method_31_code 50 = .ok (.lconst 0, 1) := by decide +kernel
theorem d_Mo_rate_51 : decode prog_9_method_31_code 51 = .ok (.lcmp, 1) := by decide +kernel
theorem d_Mo_rate_52 : decode prog_9_method_31_code 52 = .ok (.ifCond .ne 5, 3) := by decide +kernel
theorem d_Mo_rate_55 : decode prog_9_method_31_code 55 = .ok (.lconst 0, 1) := by decide +kernel
theorem d_Mo_rate_56 : decode prog_9_method_31_code 56 = .ok (.lreturn, 1) := by decide +kernel
theorem d_Mo_rate_57 : decode prog_9_method_31_code 57 = .ok (.aload_n 0, 1) := by decide +kernel
theorem d_Mo_rate_58 : decode prog_9_method_31_code 58 = .ok (.iload_n 1, 1) := by decide +kernel
theorem d_Mo_rate_59 : decode prog_9_method_31_code 59 = .ok (.iload_n 2, 1) := by decide +kernel
theorem d_Mo_rate_60 : decode prog_9_method_31_code 60 = .ok (.iconst 0, 1) := by decide +kernel
theorem d_Mo_rate_61 : decode prog_9_method_31_code 61 = .ok (.invokevirtual 174, 3) := by decide +kernel
theorem d_Mo_rate_64 : decode prog_9_method_31_code 64 = .ok (.aload_n 0, 1) := by decide +kernel
theorem d_Mo_rate_65 : decode prog_9_method_31_code 65 = .ok (.getfield 154, 3) := by decide +kernel
theorem d_Mo_rate_68 : decode prog_9_method_31_code 68 = .ok (.lload 4, 2) := by decide +kernel
theorem d_Mo_rate_70 : decode prog_9_method_31_code 70 = .ok (.invokestatic 114, 3) := by decide +kernel
theorem d_Mo_rate_73 : decode prog_9_method_31_code 73 = .ok (.lstore 6, 2) := by decide +kernel
theorem d_Mo_rate_75 : decode prog_9_method_31_code 75 = .ok (.aload_n 0, 1) := by decide +kernel
theorem d_Mo_rate_76 : decode prog_9_method_31_code 76 = .ok (.getfield 154, 3) := by decide +kernel
theorem d_Mo_rate_79 : decode prog_9_method_31_code 79 = .ok (.lload 6, 2) := by decide +kernel
theorem d_Mo_rate_81 : decode prog_9_method_31_code 81 = .ok (.ldiv, 1) := by decide +kernel
theorem d_Mo_rate_82 : decode prog_9_method_31_code 82 = .ok (.lstore 8, 2) := by decide +kernel
theorem d_Mo_rate_84 : decode prog_9_method_31_code 84 = .ok (.lload 4, 2) := by decide +kernel
theorem d_Mo_rate_86 : decode prog_9_method_31_code 86 = .ok (.lload 6, 2) := by decide +kernel
theorem d_Mo_rate_88 : decode prog_9_method_31_code 88 = .ok (.ldiv, 1) := by decide +kernel
theorem d_Mo_rate_89 : decode prog_9_method_31_code 89 = .ok (.aload_n 0, 1) := by decide +kernel
theorem d_Mo_rate_90 : decode prog_9_method_31_code 90 = .ok (.getfield 158, 3) := by decide +kernel
theorem d_Mo_rate_93 : decode prog_9_method_31_code 93 = .ok (.lmul, 1) := by decide +kernel
theorem d_Mo_rate_94 : decode prog_9_method_31_code 94 = .ok (.lstore 10, 2) := by decide +kernel
theorem d_Mo_rate_96 : decode prog_9_method_31_code 96 = .ok (.iload_n 3, 1) := by decide +kernel
theorem d_Mo_rate_97 : decode prog_9_method_31_code 97 = .ok (.ifCond .ne 8, 3) := by decide +kernel
theorem d_Mo_rate_100 : decode prog_9_method_31_code 100 = .ok (.lload 8, 2) := by decide +kernel
theorem d_Mo_rate_102 : decode prog_9_method_31_code 102 = .ok (.goto 5, 3) := by decide +kernel
theorem d_Mo_rate_105 : decode prog_9_method_31_code 105 = .ok (.lload 10, 2) := by decide +kernel
theorem d_Mo_rate_107 : decode prog_9_method_31_code 107 = .ok (.lreturn, 1) := by decide +kernel
theorem d_Mo_twice_0 : decode prog_9_method_32_code 0 = .ok (.iconst 0, 1) := by decide +kernel
theorem d_Mo_twice_1 : decode prog_9_method_32_code 1 = .ok (.istore_n 2, 1) := by decide +kernel
theorem d_Mo_twice_2 : decode prog_9_method_32_code 2 = .ok (.iconst 0, 1) := by decide +kernel
theorem d_Mo_twice_3 : decode prog_9_method_32_code 3 = .ok (.istore_n 3, 1) := by decide +kernel
theorem d_Mo_twice_4 : decode prog_9_method_32_code 4 = .ok (.iload_n 3, 1) := by decide +kernel
theorem d_Mo_twice_5 : decode prog_9_method_32_code 5 = .ok (.iconst 4, 1) := by decide +kernel
theorem d_Mo_twice_6 : decode prog_9_method_32_code 6 = .ok (.aload_n 0, 1) := by decide +kernel
theorem d_Mo_twice_7 : decode prog_9_method_32_code 7 = .ok (.getfield 72, 3) := by decide +kernel
theorem d_Mo_twice_10 : decode prog_9_method_32_code 10 = .ok (.imul, 1) := by decide +kernel
theorem d_Mo_twice_11 : decode prog_9_method_32_code 11 = .ok (.if_icmp .ge 39, 3) := by decide +kernel
theorem d_Mo_twice_14 : decode prog_9_method_32_code 14 = .ok (.aload_n 0, 1) := by decide +kernel
theorem d_Mo_twice_15 : decode prog_9_method_32_code 15 = .ok (.getfield 13, 3) := by decide +kernel
theorem d_Mo_twice_18 : decode prog_9_method_32_code 18 = .ok (.iload_n 3, 1) := by decide +kernel
theorem d_Mo_twice_19 : decode prog_9_method_32_code 19 = .ok (.baload, 1) := by decide +kernel
theorem d_Mo_twice_20 : decode prog_9_method_32_code 20 = .ok (.ifCond .eq 24, 3) := by decide +kernel
theorem d_Mo_twice_23 : decode prog_9_method_32_code 23 = .ok (.aload_n 0, 1) := by decide +kernel
theorem d_Mo_twice_24 : decode prog_9_method_32_code 24 = .ok (.getfield 17, 3) := by decide +kernel
theorem d_Mo_twice_27 : decode prog_9_method_32_code 27 = .ok (.iload_n 3, 1) := by decide +kernel
theorem d_Mo_twice_28 : decode prog_9_method_32_code 28 = .ok (.iconst 4, 1) := by decide +kernel
theorem d_Mo_twice_29 : decode prog_9_method_32_code 29 = .ok (.idiv, 1) := by decide +kernel
theorem d_Mo_twice_30 : decode prog_9_method_32_code 30 = .ok (.baload, 1) := by decide +kernel
theorem d_Mo_twice_31 : decode prog_9_method_32_code 31 = .ok (.ifCond .eq 13, 3) := by decide +kernel
theorem d_Mo_twice_34 : decode prog_9_method_32_code 34 = .ok (.iload_n 2, 1) := by decide +kernel
theorem d_Mo_twice_35 : decode prog_9_method_32_code 35 = .ok (.iload_n 1, 1) := by decide +kernel
theorem d_Mo_twice_36 : decode prog_9_method_32_code 36 = .ok (.if_icmp .ne 5, 3) := by decide +kernel
theorem d_Mo_twice_39 : decode prog_9_method_32_code 39 = .ok (.iload_n 3, 1) := by decide +kernel
theorem d_Mo_twice_40 : decode prog_9_method_32_code 40 = .ok (.ireturn, 1) := by decide +kernel
theorem d_Mo_twice_41 : decode prog_9_method_32_code 41 = .ok (.iinc 2 1, 3) := by decide +kernel
theorem d_Mo_twice_44 : decode prog_9_method_32_code 44 = .ok (.iinc 3 1, 3) := by decide +kernel
theorem d_Mo_twice_47 : decode prog_9_method_32_code 47 = .ok (.goto (-43), 3) := by decide +kernel
theorem d_Mo_twice_50 : decode prog_9_method_32_code 50 = .ok (.iconst (-1), 1) := by decide +kernel
theorem d_Mo_twice_51 : decode prog_9_method_32_code 51 = .ok (.ireturn, 1) := by decide +kernel
theorem d_Mo_told_0 : decode prog_9_method_33_code 0 = .ok (.iconst 0, 1) := by decide +kernel
theorem d_Mo_told_1 : decode prog_9_method_33_code 1 = .ok (.istore_n 2, 1) := by decide +kernel
theorem d_Mo_told_2 : decode prog_9_method_33_code 2 = .ok (.iconst 0, 1) := by decide +kernel
theorem d_Mo_told_3 : decode prog_9_method_33_code 3 = .ok (.istore_n 3, 1) := by decide +kernel
theorem d_Mo_told_4 : decode prog_9_method_33_code 4 = .ok (.iload_n 3, 1) := by decide +kernel
theorem d_Mo_told_5 : decode prog_9_method_33_code 5 = .ok (.aload_n 0, 1) := by decide +kernel
theorem d_Mo_told_6 : decode prog_9_method_33_code 6 = .ok (.getfield 145, 3) := by decide +kernel
theorem d_Mo_told_9 : decode prog_9_method_33_code 9 = .ok (.if_icmp .ge 75, 3) := by decide +kernel
theorem d_Mo_told_12 : decode prog_9_method_33_code 12 = .ok (.aload_n 0, 1) := by decide +kernel
theorem d_Mo_told_13 : decode prog_9_method_33_code 13 = .ok (.getfield 141, 3) := by decide +kernel
theorem d_Mo_told_16 : decode prog_9_method_33_code 16 = .ok (.ifCond .eq 68, 3) := by decide +kernel
theorem d_Mo_told_19 : decode prog_9_method_33_code 19 = .ok (.iconst 0, 1) := by decide +kernel
theorem d_Mo_told_20 : decode prog_9_method_33_code 20 = .ok (.istore 4, 2) := by decide +kernel
theorem d_Mo_told_22 : decode prog_9_method_33_code 22 = .ok (.iconst 0, 1) := by decide +kernel
theorem d_Mo_told_23 : decode prog_9_method_33_code 23 = .ok (.istore 5, 2) := by decide +kernel
theorem d_Mo_told_25 : decode prog_9_method_33_code 25 = .ok (.iload 5, 2) := by decide +kernel
theorem d_Mo_told_27 : decode prog_9_method_33_code 27 = .ok (.iconst 4, 1) := by decide +kernel
theorem d_Mo_told_28 : decode prog_9_method_33_code 28 = .ok (.if_icmp .ge 35, 3) := by decide +kernel
theorem d_Mo_told_31 : decode prog_9_method_33_code 31 = .ok (.iload 4, 2) := by decide +kernel
theorem d_Mo_told_33 : decode prog_9_method_33_code 33 = .ok (.ifCond .ne 17, 3) := by decide +kernel
theorem d_Mo_told_36 : decode prog_9_method_33_code 36 = .ok (.aload_n 0, 1) := by decide +kernel
theorem d_Mo_told_37 : decode prog_9_method_33_code 37 = .ok (.getfield 51, 3) := by decide +kernel
theorem d_Mo_told_40 : decode prog_9_method_33_code 40 = .ok (.iconst 4, 1) := by decide +kernel
theorem d_Mo_told_41 : decode prog_9_method_33_code 41 = .ok (.iload_n 3, 1) := by decide +kernel
theorem d_Mo_told_42 : decode prog_9_method_33_code 42 = .ok (.imul, 1) := by decide +kernel
theorem d_Mo_told_43 : decode prog_9_method_33_code 43 = .ok (.iload 5, 2) := by decide +kernel
theorem d_Mo_told_45 : decode prog_9_method_33_code 45 = .ok (.iadd, 1) := by decide +kernel
theorem d_Mo_told_46 : decode prog_9_method_33_code 46 = .ok (.baload, 1) := by decide +kernel
theorem d_Mo_told_47 : decode prog_9_method_33_code 47 = .ok (.ifCond .eq 7, 3) := by decide +kernel
theorem d_Mo_told_50 : decode prog_9_method_33_code 50 = .ok (.iconst 1, 1) := by decide +kernel
theorem d_Mo_told_51 : decode prog_9_method_33_code 51 = .ok (.goto 4, 3) := by decide +kernel
theorem d_Mo_told_54 : decode prog_9_method_33_code 54 = .ok (.iconst 0, 1) := by decide +kernel
theorem d_Mo_told_55 : decode prog_9_method_33_code 55 = .ok (.istore 4, 2) := by decide +kernel
theorem d_Mo_told_57 : decode prog_9_method_33_code 57 = .ok (.iinc 5 1, 3) := by decide +kernel
theorem d_Mo_told_60 : decode prog_9_method_33_code 60 = .ok (.goto (-35), 3) := by decide +kernel
theorem d_Mo_told_63 : decode prog_9_method_33_code 63 = .ok (.iload 4, 2) := by decide +kernel
theorem d_Mo_told_65 : decode prog_9_method_33_code 65 = .ok (.ifCond .eq 13, 3) := by decide +kernel
theorem d_Mo_told_68 : decode prog_9_method_33_code 68 = .ok (.iload_n 2, 1) := by decide +kernel
theorem d_Mo_told_69 : decode prog_9_method_33_code 69 = .ok (.iload_n 1, 1) := by decide +kernel
theorem d_Mo_told_70 : decode prog_9_method_33_code 70 = .ok (.if_icmp .ne 5, 3) := by decide +kernel
theorem d_Mo_told_73 : decode prog_9_method_33_code 73 = .ok (.iload_n 3, 1) := by decide +kernel
theorem d_Mo_told_74 : decode prog_9_method_33_code 74 = .ok (.ireturn, 1) := by decide +kernel
theorem d_Mo_told_75 : decode prog_9_method_33_code 75 = .ok (.iinc 2 1, 3) := by decide +kernel
theorem d_Mo_told_78 : decode prog_9_method_33_code 78 = .ok (.iinc 3 1, 3) := by decide +kernel
theorem d_Mo_told_81 : decode prog_9_method_33_code 81 = .ok (.goto (-77), 3) := by decide +kernel
theorem d_Mo_told_84 : decode prog_9_method_33_code 84 = .ok (.iconst (-1), 1) := by decide +kernel
theorem d_Mo_told_85 : decode prog_9_method_33_code 85 = .ok (.ireturn, 1) := by decide +kernel
theorem d_Mo_once_0 : decode prog_9_method_34_code 0 = .ok (.iconst 1, 1) := by decide +kernel
theorem d_Mo_once_1 : decode prog_9_method_34_code 1 = .ok (.istore_n 1, 1) := by decide +kernel
theorem d_Mo_once_2 : decode prog_9_method_34_code 2 = .ok (.iconst 0, 1) := by decide +kernel
theorem d_Mo_once_3 : decode prog_9_method_34_code 3 = .ok (.istore_n 2, 1) := by decide +kernel
theorem d_Mo_once_4 : decode prog_9_method_34_code 4 = .ok (.iload_n 2, 1) := by decide +kernel
theorem d_Mo_once_5 : decode prog_9_method_34_code 5 = .ok (.iconst 4, 1) := by decide +kernel
theorem d_Mo_once_6 : decode prog_9_method_34_code 6 = .ok (.if_icmp .ge 135, 3) := by decide +kernel
theorem d_Mo_once_9 : decode prog_9_method_34_code 9 = .ok (.aload_n 0, 1) := by decide +kernel
theorem d_Mo_once_10 : decode prog_9_method_34_code 10 = .ok (.getfield 141, 3) := by decide +kernel
theorem d_Mo_once_13 : decode prog_9_method_34_code 13 = .ok (.ifCond .eq 128, 3) := by decide +kernel
theorem d_Mo_once_16 : decode prog_9_method_34_code 16 = .ok (.iconst 0, 1) := by decide +kernel
theorem d_Mo_once_17 : decode prog_9_method_34_code 17 = .ok (.istore_n 3, 1) := by decide +kernel
theorem d_Mo_once_18 : decode prog_9_method_34_code 18 = .ok (.iload_n 3, 1) := by decide +kernel
theorem d_Mo_once_19 : decode prog_9_method_34_code 19 = .ok (.bipush 10, 2) := by decide +kernel
theorem d_Mo_once_21 : decode prog_9_method_34_code 21 = .ok (.if_icmp .ge 114, 3) := by decide +kernel
theorem d_Mo_once_24 : decode prog_9_method_34_code 24 = .ok (.iload_n 2, 1) := by decide +kernel
theorem d_Mo_once_25 : decode prog_9_method_34_code 25 = .ok (.iconst 3, 1) := by decide +kernel
theorem d_Mo_once_26 : decode prog_9_method_34_code 26 = .ok (.if_icmp .ne 12, 3) := by decide +kernel
theorem d_Mo_once_29 : decode prog_9_method_34_code 29 = .ok (.aload_n 0, 1) := by decide +kernel
theorem d_Mo_once_30 : decode prog_9_method_34_code 30 = .ok (.getfield 54, 3) := by decide +kernel
theorem d_Mo_once_33 : decode prog_9_method_34_code 33 = .ok (.iload_n 3, 1) := by decide +kernel
theorem d_Mo_once_34 : decode prog_9_method_34_code 34 = .ok (.laload, 1) := by decide +kernel
theorem d_Mo_once_35 : decode prog_9_method_34_code 35 = .ok (.goto 4, 3) := by decide +kernel
theorem d_Mo_once_38 : decode prog_9_method_34_code 38 = .ok (.lconst 0, 1) := by decide +kernel
theorem d_Mo_once_39 : decode prog_9_method_34_code 39 = .ok (.lstore 4, 2) := by decide +kernel
theorem d_Mo_once_41 : decode prog_9_method_34_code 41 = .ok (.iconst 0, 1) := by decide +kernel
theorem d_Mo_once_42 : decode prog_9_method_34_code 42 = .ok (.istore 6, 2) := by decide +kernel
theorem d_Mo_once_44 : decode prog_9_method_34_code 44 = .ok (.iload 6, 2) := by decide +kernel
theorem d_Mo_once_46 : decode prog_9_method_34_code 46 = .ok (.aload_n 0, 1) := by decide +kernel
theorem d_Mo_once_47 : decode prog_9_method_34_code 47 = .ok (.getfield 148, 3) := by decide +kernel
theorem d_Mo_once_50 : decode prog_9_method_34_code 50 = .ok (.if_icmp .ge 47, 3) := by decide +kernel
theorem d_Mo_once_53 : decode prog_9_method_34_code 53 = .ok (.lload 4, 2) := by decide +kernel
theorem d_Mo_once_55 : decode prog_9_method_34_code 55 = .ok (.aload_n 0, 1) := by decide +kernel
theorem d_Mo_once_56 : decode prog_9_method_34_code 56 = .ok (.getfield 26, 3) := by decide +kernel
theorem d_Mo_once_59 : decode prog_9_method_34_code 59 = .ok (.iload 6, 2) := by decide +kernel
theorem d_Mo_once_61 : decode prog_9_method_34_code 61 = .ok (.iaload, 1) := by decide +kernel
theorem d_Mo_once_62 : decode prog_9_method_34_code 62 = .ok (.iload_n 2, 1) := by decide +kernel
theorem d_Mo_once_63 : decode prog_9_method_34_code 63 = .ok (.if_icmp .ne 24, 3) := by decide +kernel
theorem d_Mo_once_66 : decode prog_9_method_34_code 66 = .ok (.aload_n 0, 1) := by decide +kernel
theorem d_Mo_once_67 : decode prog_9_method_34_code 67 = .ok (.getfield 29, 3) := by decide +kernel
theorem d_Mo_once_70 : decode prog_9_method_34_code 70 = .ok (.iload 6, 2) := by decide +kernel
theorem d_Mo_once_72 : decode prog_9_method_34_code 72 = .ok (.iaload, 1) := by decide +kernel
theorem d_Mo_once_73 : decode prog_9_method_34_code 73 = .ok (.iload_n 3, 1) := by decide +kernel
theorem d_Mo_once_74 : decode prog_9_method_34_code 74 = .ok (.if_icmp .ne 13, 3) := by decide +kernel
theorem d_Mo_once_77 : decode prog_9_method_34_code 77 = .ok (.aload_n 0, 1) := by decide +kernel
theorem d_Mo_once_78 : decode prog_9_method_34_code 78 = .ok (.getfield 35, 3) := by decide +kernel
theorem d_Mo_once_81 : decode prog_9_method_34_code 81 = .ok (.iload 6, 2) := by decide +kernel
theorem d_Mo_once_83 : decode prog_9_method_34_code 83 = .ok (.laload, 1) := by decide +kernel
theorem d_Mo_once_84 : decode prog_9_method_34_code 84 = .ok (.goto 4, 3) := by decide +kernel
theorem d_Mo_once_87 : decode prog_9_method_34_code 87 = .ok (.lconst 0, 1) := by decide +kernel
theorem d_Mo_once_88 : decode prog_9_method_34_code 88 = .ok (.ladd, 1) := by decide +kernel
theorem d_Mo_once_89 : decode prog_9_method_34_code 89 = .ok (.lstore 4, 2) := by decide +kernel
theorem d_Mo_once_91 : decode prog_9_method_34_code 91 = .ok (.iinc 6 1, 3) := by decide +kernel
theorem d_Mo_once_94 : decode prog_9_method_34_code 94 = .ok (.goto (-50), 3) := by decide +kernel
theorem d_Mo_once_97 : decode prog_9_method_34_code 97 = .ok (.aload_n 0, 1) := by decide +kernel
theorem d_Mo_once_98 : decode prog_9_method_34_code 98 = .ok (.iload_n 2, 1) := by decide +kernel
theorem d_Mo_once_99 : decode prog_9_method_34_code 99 = .ok (.iload_n 3, 1) := by decide +kernel
theorem d_Mo_once_100 : decode prog_9_method_34_code 100 = .ok (.iconst (-1), 1) := by decide +kernel
theorem d_Mo_once_101 : decode prog_9_method_34_code 101 = .ok (.invokevirtual 174, 3) := by decide +kernel
theorem d_Mo_once_104 : decode prog_9_method_34_code 104 = .ok (.iload_n 1, 1) := by decide +kernel
theorem d_Mo_once_105 : decode prog_9_method_34_code 105 = .ok (.ifCond .eq 22, 3) := by decide +kernel
theorem d_Mo_once_108 : decode prog_9_method_34_code 108 = .ok (.aload_n 0, 1) := by decide +kernel
theorem d_Mo_once_109 : decode prog_9_method_34_code 109 = .ok (.getfield 154, 3) := by decide +kernel
theorem d_Mo_once_112 : decode prog_9_method_34_code 112 = .ok (.lload 4, 2) := by decide +kernel
theorem d_Mo_once_114 : decode prog_9_method_34_code 114 = .ok (.aload_n 0, 1) := by decide +kernel
theorem d_Mo_once_115 : decode prog_9_method_34_code 115 = .ok (.getfield 158, 3) := by decide +kernel
theorem d_Mo_once_118 : decode prog_9_method_34_code 118 = .ok (.lmul, 1) := by decide +kernel
theorem d_Mo_once_119 : decode prog_9_method_34_code 119 = .ok (.lcmp, 1) := by decide +kernel
theorem d_Mo_once_120 : decode prog_9_method_34_code 120 = .ok (.ifCond .gt 7, 3) := by decide +kernel
theorem d_Mo_once_123 : decode prog_9_method_34_code 123 = .ok (.iconst 1, 1) := by decide +kernel
theorem d_Mo_once_124 : decode prog_9_method_34_code 124 = .ok (.goto 4, 3) := by decide +kernel
theorem d_Mo_once_127 : decode prog_9_method_34_code 127 = .ok (.iconst 0, 1) := by decide +kernel
theorem d_Mo_once_128 : decode prog_9_method_34_code 128 = .ok (.istore_n 1, 1) := by decide +kernel
theorem d_Mo_once_129 : decode prog_9_method_34_code 129 = .ok (.iinc 3 1, 3) := by decide +kernel
theorem d_Mo_once_132 : decode prog_9_method_34_code 132 = .ok (.goto (-114), 3) := by decide +kernel
theorem d_Mo_once_135 : decode prog_9_method_34_code 135 = .ok (.iinc 2 1, 3) := by decide +kernel
theorem d_Mo_once_138 : decode prog_9_method_34_code 138 = .ok (.goto (-134), 3) := by decide +kernel
theorem d_Mo_once_141 : decode prog_9_method_34_code 141 = .ok (.iload_n 1, 1) := by decide +kernel
theorem d_Mo_once_142 : decode prog_9_method_34_code 142 = .ok (.ireturn, 1) := by decide +kernel
theorem d_Mo_left_0 : decode prog_9_method_36_code 0 = .ok (.aload_n 0, 1) := by decide +kernel
theorem d_Mo_left_1 : decode prog_9_method_36_code 1 = .ok (.getfield 141, 3) := by decide +kernel
theorem d_Mo_left_4 : decode prog_9_method_36_code 4 = .ok (.ifCond .eq 34, 3) := by decide +kernel
theorem d_Mo_left_7 : decode prog_9_method_36_code 7 = .ok (.iload_n 1, 1) := by decide +kernel
theorem d_Mo_left_8 : decode prog_9_method_36_code 8 = .ok (.invokestatic 105, 3) := by decide +kernel
theorem d_Mo_left_11 : decode prog_9_method_36_code 11 = .ok (.ifCond .eq 27, 3) := by decide +kernel
theorem d_Mo_left_14 : decode prog_9_method_36_code 14 = .ok (.iload_n 2, 1) := by decide +kernel
theorem d_Mo_left_15 : decode prog_9_method_36_code 15 = .ok (.invokestatic 94, 3) := by decide +kernel
theorem d_Mo_left_18 : decode prog_9_method_36_code 18 = .ok (.ifCond .eq 20, 3) := by decide +kernel
theorem d_Mo_left_21 : decode prog_9_method_36_code 21 = .ok (.iload_n 3, 1) := by decide +kernel
theorem d_Mo_left_22 : decode prog_9_method_36_code 22 = .ok (.invokestatic 102, 3) := by decide +kernel
theorem d_Mo_left_25 : decode prog_9_method_36_code 25 = .ok (.ifCond .eq 13, 3) := by decide +kernel
theorem d_Mo_left_28 : decode prog_9_method_36_code 28 = .ok (.aload_n 0, 1) := by decide +kernel
theorem d_Mo_left_29 : decode prog_9_method_36_code 29 = .ok (.iload_n 1, 1) := by decide +kernel
theorem d_Mo_left_30 : decode prog_9_method_36_code 30 = .ok (.iload_n 2, 1) := by decide +kernel
theorem d_Mo_left_31 : decode prog_9_method_36_code 31 = .ok (.iload_n 3, 1) := by decide +kernel
theorem d_Mo_left_32 : decode prog_9_method_36_code 32 = .ok (.invokevirtual 178, 3) := by decide +kernel
theorem d_Mo_left_35 : decode prog_9_method_36_code 35 = .ok (.goto 6, 3) := by decide +kernel
theorem d_Mo_left_38 : decode prog_9_method_36_code 38 = .ok (.ldc2_w 172, 3) := by decide +kernel
theorem d_Mo_left_41 : decode prog_9_method_36_code 41 = .ok (.lreturn, 1) := by decide +kernel
theorem d_Mo_stock_0 : decode prog_9_method_35_code 0 = .ok (.aload_n 0, 1) := by decide +kernel
theorem d_Mo_stock_1 : decode prog_9_method_35_code 1 = .ok (.iload_n 2, 1) := by decide +kernel
theorem d_Mo_stock_2 : decode prog_9_method_35_code 2 = .ok (.iload_n 3, 1) := by decide +kernel
theorem d_Mo_stock_3 : decode prog_9_method_35_code 3 = .ok (.iload_n 1, 1) := by decide +kernel
theorem d_Mo_stock_4 : decode prog_9_method_35_code 4 = .ok (.invokevirtual 174, 3) := by decide +kernel
theorem d_Mo_stock_7 : decode prog_9_method_35_code 7 = .ok (.aload_n 0, 1) := by decide +kernel
theorem d_Mo_stock_8 : decode prog_9_method_35_code 8 = .ok (.getfield 154, 3) := by decide +kernel
theorem d_Mo_stock_11 : decode prog_9_method_35_code 11 = .ok (.aload_n 0, 1) := by decide +kernel
theorem d_Mo_stock_12 : decode prog_9_method_35_code 12 = .ok (.getfield 158, 3) := by decide +kernel
theorem d_Mo_stock_15 : decode prog_9_method_35_code 15 = .ok (.ldiv, 1) := by decide +kernel
theorem d_Mo_stock_16 : decode prog_9_method_35_code 16 = .ok (.aload_n 0, 1) := by decide +kernel
theorem d_Mo_stock_17 : decode prog_9_method_35_code 17 = .ok (.getfield 57, 3) := by decide +kernel
theorem d_Mo_stock_20 : decode prog_9_method_35_code 20 = .ok (.bipush 40, 2) := by decide +kernel
theorem d_Mo_stock_22 : decode prog_9_method_35_code 22 = .ok (.iload_n 1, 1) := by decide +kernel
theorem d_Mo_stock_23 : decode prog_9_method_35_code 23 = .ok (.imul, 1) := by decide +kernel
theorem d_Mo_stock_24 : decode prog_9_method_35_code 24 = .ok (.bipush 10, 2) := by decide +kernel
theorem d_Mo_stock_26 : decode prog_9_method_35_code 26 = .ok (.iload_n 2, 1) := by decide +kernel
theorem d_Mo_stock_27 : decode prog_9_method_35_code 27 = .ok (.imul, 1) := by decide +kernel
theorem d_Mo_stock_28 : decode prog_9_method_35_code 28 = .ok (.iadd, 1) := by decide +kernel
theorem d_Mo_stock_29 : decode prog_9_method_35_code 29 = .ok (.iload_n 3, 1) := by decide +kernel
theorem d_Mo_stock_30 : decode prog_9_method_35_code 30 = .ok (.iadd, 1) := by decide +kernel
theorem d_Mo_stock_31 : decode prog_9_method_35_code 31 = .ok (.laload, 1) := by decide +kernel
theorem d_Mo_stock_32 : decode prog_9_method_35_code 32 = .ok (.lsub, 1) := by decide +kernel
theorem d_Mo_stock_33 : decode prog_9_method_35_code 33 = .ok (.lreturn, 1) := by decide +kernel
theorem d_Mo_claim_0 : decode prog_9_method_37_code 0 = .ok (.aload_n 0, 1) := by decide +kernel
theorem d_Mo_claim_1 : decode prog_9_method_37_code 1 = .ok (.getfield 141, 3) := by decide +kernel
theorem d_Mo_claim_4 : decode prog_9_method_37_code 4 = .ok (.ifCond .eq 36, 3) := by decide +kernel
theorem d_Mo_claim_7 : decode prog_9_method_37_code 7 = .ok (.iload_n 1, 1) := by decide +kernel
theorem d_Mo_claim_8 : decode prog_9_method_37_code 8 = .ok (.invokestatic 105, 3) := by decide +kernel
theorem d_Mo_claim_11 : decode prog_9_method_37_code 11 = .ok (.ifCond .eq 29, 3) := by decide +kernel
theorem d_Mo_claim_14 : decode prog_9_method_37_code 14 = .ok (.iload_n 2, 1) := by decide +kernel
theorem d_Mo_claim_15 : decode prog_9_method_37_code 15 = .ok (.invokestatic 94, 3) := by decide +kernel
theorem d_Mo_claim_18 : decode prog_9_method_37_code 18 = .ok (.ifCond .eq 22, 3) := by decide +kernel
theorem d_Mo_claim_21 : decode prog_9_method_37_code 21 = .ok (.iload_n 3, 1) := by decide +kernel
theorem d_Mo_claim_22 : decode prog_9_method_37_code 22 = .ok (.invokestatic 102, 3) := by decide +kernel
theorem d_Mo_claim_25 : decode prog_9_method_37_code 25 = .ok (.ifCond .eq 15, 3) := by decide +kernel
theorem d_Mo_claim_28 : decode prog_9_method_37_code 28 = .ok (.lload 4, 2) := by decide +kernel
theorem d_Mo_claim_30 : decode prog_9_method_37_code 30 = .ok (.lconst 1, 1) := by decide +kernel
theorem d_Mo_claim_31 : decode prog_9_method_37_code 31 = .ok (.ldc2_w 182, 3) := by decide +kernel
theorem d_Mo_claim_34 : decode prog_9_method_37_code 34 = .ok (.invokestatic 82, 3) := by decide +kernel
theorem d_Mo_claim_37 : decode prog_9_method_37_code 37 = .ok (.ifCond .ne 7, 3) := by decide +kernel
theorem d_Mo_claim_40 : decode prog_9_method_37_code 40 = .ok (.ldc2_w 172, 3) := by decide +kernel
theorem d_Mo_claim_43 : decode prog_9_method_37_code 43 = .ok (.lreturn, 1) := by decide +kernel
theorem d_Mo_claim_44 : decode prog_9_method_37_code 44 = .ok (.lconst 0, 1) := by decide +kernel
theorem d_Mo_claim_45 : decode prog_9_method_37_code 45 = .ok (.lstore 6, 2) := by decide +kernel
theorem d_Mo_claim_47 : decode prog_9_method_37_code 47 = .ok (.iload_n 3, 1) := by decide +kernel
theorem d_Mo_claim_48 : decode prog_9_method_37_code 48 = .ok (.iconst 2, 1) := by decide +kernel
theorem d_Mo_claim_49 : decode prog_9_method_37_code 49 = .ok (.if_icmp .ge 7, 3) := by decide +kernel
theorem d_Mo_claim_52 : decode prog_9_method_37_code 52 = .ok (.iconst 0, 1) := by decide +kernel
theorem d_Mo_claim_53 : decode prog_9_method_37_code 53 = .ok (.goto 6, 3) := by decide +kernel
theorem d_Mo_claim_56 : decode prog_9_method_37_code 56 = .ok (.iload_n 3, 1) := by decide +kernel
theorem d_Mo_claim_57 : decode prog_9_method_37_code 57 = .ok (.iconst 2, 1) := by decide +kernel
theorem d_Mo_claim_58 : decode prog_9_method_37_code 58 = .ok (.isub, 1) := by decide +kernel
theorem d_Mo_claim_59 : decode prog_9_method_37_code 59 = .ok (.istore 8, 2) := by decide +kernel
theorem d_Mo_claim_61 : decode prog_9_method_37_code 61 = .ok (.iload 8, 2) := by decide +kernel
theorem d_Mo_claim_63 : decode prog_9_method_37_code 63 = .ok (.iload_n 3, 1) := by decide +kernel
theorem d_Mo_claim_64 : decode prog_9_method_37_code 64 = .ok (.if_icmp .gt 22, 3) := by decide +kernel
theorem d_Mo_claim_67 : decode prog_9_method_37_code 67 = .ok (.lload 6, 2) := by decide +kernel
theorem d_Mo_claim_69 : decode prog_9_method_37_code 69 = .ok (.aload_n 0, 1) := by decide +kernel
theorem d_Mo_claim_70 : decode prog_9_method_37_code 70 = .ok (.iload_n 1, 1) := by decide +kernel
theorem d_Mo_claim_71 : decode prog_9_method_37_code 71 = .ok (.iload_n 2, 1) := by decide +kernel
theorem d_Mo_claim_72 : decode prog_9_method_37_code 72 = .ok (.iload 8, 2) := by decide +kernel
theorem d_Mo_claim_74 : decode prog_9_method_37_code 74 = .ok (.invokevirtual 178, 3) := by decide +kernel
theorem d_Mo_claim_77 : decode prog_9_method_37_code 77 = .ok (.ladd, 1) := by decide +kernel
theorem d_Mo_claim_78 : decode prog_9_method_37_code 78 = .ok (.lstore 6, 2) := by decide +kernel
theorem d_Mo_claim_80 : decode prog_9_method_37_code 80 = .ok (.iinc 8 1, 3) := by decide +kernel
theorem d_Mo_claim_83 : decode prog_9_method_37_code 83 = .ok (.goto (-22), 3) := by decide +kernel
theorem d_Mo_claim_86 : decode prog_9_method_37_code 86 = .ok (.lload 6, 2) := by decide +kernel
theorem d_Mo_claim_88 : decode prog_9_method_37_code 88 = .ok (.lload 4, 2) := by decide +kernel
theorem d_Mo_claim_90 : decode prog_9_method_37_code 90 = .ok (.lcmp, 1) := by decide +kernel
theorem d_Mo_claim_91 : decode prog_9_method_37_code 91 = .ok (.ifCond .ge 7, 3) := by decide +kernel
theorem d_Mo_claim_94 : decode prog_9_method_37_code 94 = .ok (.ldc2_w 172, 3) := by decide +kernel
theorem d_Mo_claim_97 : decode prog_9_method_37_code 97 = .ok (.lreturn, 1) := by decide +kernel
theorem d_Mo_claim_98 : decode prog_9_method_37_code 98 = .ok (.lload 4, 2) := by decide +kernel
theorem d_Mo_claim_100 : decode prog_9_method_37_code 100 = .ok (.lstore 8, 2) := by decide +kernel
theorem d_Mo_claim_102 : decode prog_9_method_37_code 102 = .ok (.iload_n 3, 1) := by decide +kernel
theorem d_Mo_claim_103 : decode prog_9_method_37_code 103 = .ok (.iconst 2, 1) := by decide +kernel
theorem d_Mo_claim_104 : decode prog_9_method_37_code 104 = .ok (.if_icmp .ge 7, 3) := by decide +kernel
theorem d_Mo_claim_107 : decode prog_9_method_37_code 107 = .ok (.iconst 0, 1) := by decide +kernel
theorem d_Mo_claim_108 : decode prog_9_method_37_code 108 = .ok (.goto 6, 3) := by decide +kernel
theorem d_Mo_claim_111 : decode prog_9_method_37_code 111 = .ok (.iload_n 3, 1) := by decide +kernel
theorem d_Mo_claim_112 : decode prog_9_method_37_code 112 = .ok (.iconst 2, 1) := by decide +kernel
theorem d_Mo_claim_113 : decode prog_9_method_37_code 113 = .ok (.isub, 1) := by decide +kernel
theorem d_Mo_claim_114 : decode prog_9_method_37_code 114 = .ok (.istore 10, 2) := by decide +kernel
theorem d_Mo_claim_116 : decode prog_9_method_37_code 116 = .ok (.iload 10, 2) := by decide +kernel
theorem d_Mo_claim_118 : decode prog_9_method_37_code 118 = .ok (.iload_n 3, 1) := by decide +kernel
theorem d_Mo_claim_119 : decode prog_9_method_37_code 119 = .ok (.if_icmp .gt 65, 3) := by decide +kernel
theorem d_Mo_claim_122 : decode prog_9_method_37_code 122 = .ok (.aload_n 0, 1) := by decide +kernel
theorem d_Mo_claim_123 : decode prog_9_method_37_code 123 = .ok (.iload_n 1, 1) := by decide +kernel
theorem d_Mo_claim_124 : decode prog_9_method_37_code 124 = .ok (.iload_n 2, 1) := by decide +kernel
theorem d_Mo_claim_125 : decode prog_9_method_37_code 125 = .ok (.iload 10, 2) := by decide +kernel
theorem d_Mo_claim_127 : decode prog_9_method_37_code 127 = .ok (.invokevirtual 178, 3) := by decide +kernel
theorem d_Mo_claim_130 : decode prog_9_method_37_code 130 = .ok (.lstore 11, 2) := by decide +kernel
theorem d_Mo_claim_132 : decode prog_9_method_37_code 132 = .ok (.lload 11, 2) := by decide +kernel
theorem d_Mo_claim_134 : decode prog_9_method_37_code 134 = .ok (.lload 8, 2) := by decide +kernel
theorem d_Mo_claim_136 : decode prog_9_method_37_code 136 = .ok (.lcmp, 1) := by decide +kernel
theorem d_Mo_claim_137 : decode prog_9_method_37_code 137 = .ok (.ifCond .ge 8, 3) := by decide +kernel
theorem d_Mo_claim_140 : decode prog_9_method_37_code 140 = .ok (.lload 11, 2) := by decide +kernel
theorem d_Mo_claim_142 : decode prog_9_method_37_code 142 = .ok (.goto 5, 3) := by decide +kernel
theorem d_Mo_claim_145 : decode prog_9_method_37_code 145 = .ok (.lload 8, 2) := by decide +kernel
theorem d_Mo_claim_147 : decode prog_9_method_37_code 147 = .ok (.lstore 13, 2) := by decide +kernel
theorem d_Mo_claim_149 : decode prog_9_method_37_code 149 = .ok (.aload_n 0, 1) := by decide +kernel
theorem d_Mo_claim_150 : decode prog_9_method_37_code 150 = .ok (.getfield 57, 3) := by decide +kernel
theorem d_Mo_claim_153 : decode prog_9_method_37_code 153 = .ok (.bipush 40, 2) := by decide +kernel
theorem d_Mo_claim_155 : decode prog_9_method_37_code 155 = .ok (.iload_n 1, 1) := by decide +kernel
theorem d_Mo_claim_156 : decode prog_9_method_37_code 156 = .ok (.imul, 1) := by decide +kernel
theorem d_Mo_claim_157 : decode prog_9_method_37_code 157 = .ok (.bipush 10, 2) := by decide +kernel
theorem d_Mo_claim_159 : decode prog_9_method_37_code 159 = .ok (.iload_n 2, 1) := by decide +kernel
theorem d_Mo_claim_160 : decode prog_9_method_37_code 160 = .ok (.imul, 1) := by decide +kernel
theorem d_Mo_claim_161 : decode prog_9_method_37_code 161 = .ok (.iadd, 1) := by decide +kernel
theorem d_Mo_claim_162 : decode prog_9_method_37_code 162 = .ok (.iload 10, 2) := by decide +kernel
theorem d_Mo_claim_164 : decode prog_9_method_37_code 164 = .ok (.iadd, 1) := by decide +kernel
theorem d_Mo_claim_165 : decode prog_9_method_37_code 165 = .ok (.dup2, 1) := by decide +kernel
theorem d_Mo_claim_166 : decode prog_9_method_37_code 166 = .ok (.laload, 1) := by decide +kernel
theorem d_Mo_claim_167 : decode prog_9_method_37_code 167 = .ok (.lload 13, 2) := by decide +kernel
theorem d_Mo_claim_169 : decode prog_9_method_37_code 169 = .ok (.ladd, 1) := by decide +kernel
theorem d_Mo_claim_170 : decode prog_9_method_37_code 170 = .ok (.lastore, 1) := by decide +kernel
theorem d_Mo_claim_171 : decode prog_9_method_37_code 171 = .ok (.lload 8, 2) := by decide +kernel
theorem d_Mo_claim_173 : decode prog_9_method_37_code 173 = .ok (.lload 13, 2) := by decide +kernel
theorem d_Mo_claim_175 : decode prog_9_method_37_code 175 = .ok (.lsub, 1) := by decide +kernel
theorem d_Mo_claim_176 : decode prog_9_method_37_code 176 = .ok (.lstore 8, 2) := by decide +kernel
theorem d_Mo_claim_178 : decode prog_9_method_37_code 178 = .ok (.iinc 10 1, 3) := by decide +kernel
theorem d_Mo_claim_181 : decode prog_9_method_37_code 181 = .ok (.goto (-65), 3) := by decide +kernel
theorem d_Mo_claim_184 : decode prog_9_method_37_code 184 = .ok (.lload 6, 2) := by decide +kernel
theorem d_Mo_claim_186 : decode prog_9_method_37_code 186 = .ok (.lload 4, 2) := by decide +kernel
theorem d_Mo_claim_188 : decode prog_9_method_37_code 188 = .ok (.lsub, 1) := by decide +kernel
theorem d_Mo_claim_189 : decode prog_9_method_37_code 189 = .ok (.lreturn, 1) := by decide +kernel
theorem d_Mo_open_0 : decode prog_9_method_38_code 0 = .ok (.aload_n 0, 1) := by decide +kernel
theorem d_Mo_open_1 : decode prog_9_method_38_code 1 = .ok (.getfield 141, 3) := by decide +kernel
theorem d_Mo_open_4 : decode prog_9_method_38_code 4 = .ok (.ifCond .eq 42, 3) := by decide +kernel
theorem d_Mo_open_7 : decode prog_9_method_38_code 7 = .ok (.iload_n 1, 1) := by decide +kernel
theorem d_Mo_open_8 : decode prog_9_method_38_code 8 = .ok (.invokestatic 102, 3) := by decide +kernel
theorem d_Mo_open_11 : decode prog_9_method_38_code 11 = .ok (.ifCond .eq 35, 3) := by decide +kernel
theorem d_Mo_open_14 : decode prog_9_method_38_code 14 = .ok (.iload_n 2, 1) := by decide +kernel
theorem d_Mo_open_15 : decode prog_9_method_38_code 15 = .ok (.invokestatic 102, 3) := by decide +kernel
theorem d_Mo_open_18 : decode prog_9_method_38_code 18 = .ok (.ifCond .eq 28, 3) := by decide +kernel
theorem d_Mo_open_21 : decode prog_9_method_38_code 21 = .ok (.iload_n 3, 1) := by decide +kernel
theorem d_Mo_open_22 : decode prog_9_method_38_code 22 = .ok (.ifCond .lt 24, 3) := by decide +kernel
theorem d_Mo_open_25 : decode prog_9_method_38_code 25 = .ok (.iload_n 3, 1) := by decide +kernel
theorem d_Mo_open_26 : decode prog_9_method_38_code 26 = .ok (.iconst 4, 1) := by decide +kernel
theorem d_Mo_open_27 : decode prog_9_method_38_code 27 = .ok (.aload_n 0, 1) := by decide +kernel
theorem d_Mo_open_28 : decode prog_9_method_38_code 28 = .ok (.getfield 72, 3) := by decide +kernel
theorem d_Mo_open_31 : decode prog_9_method_38_code 31 = .ok (.imul, 1) := by decide +kernel
theorem d_Mo_open_32 : decode prog_9_method_38_code 32 = .ok (.if_icmp .ge 14, 3) := by decide +kernel
theorem d_Mo_open_35 : decode prog_9_method_38_code 35 = .ok (.iload 4, 2) := by decide +kernel
theorem d_Mo_open_37 : decode prog_9_method_38_code 37 = .ok (.i2l, 1) := by decide +kernel
theorem d_Mo_open_38 : decode prog_9_method_38_code 38 = .ok (.lconst 0, 1) := by decide +kernel
theorem d_Mo_open_39 : decode prog_9_method_38_code 39 = .ok (.lconst 1, 1) := by decide +kernel
theorem d_Mo_open_40 : decode prog_9_method_38_code 40 = .ok (.invokestatic 82, 3) := by decide +kernel
theorem d_Mo_open_43 : decode prog_9_method_38_code 43 = .ok (.ifCond .ne 5, 3) := by decide +kernel
theorem d_Mo_open_46 : decode prog_9_method_38_code 46 = .ok (.lconst 0, 1) := by decide +kernel
theorem d_Mo_open_47 : decode prog_9_method_38_code 47 = .ok (.lreturn, 1) := by decide +kernel
theorem d_Mo_open_48 : decode prog_9_method_38_code 48 = .ok (.aload_n 0, 1) := by decide +kernel
theorem d_Mo_open_49 : decode prog_9_method_38_code 49 = .ok (.invokevirtual 165, 3) := by decide +kernel
theorem d_Mo_open_52 : decode prog_9_method_38_code 52 = .ok (.aload_n 0, 1) := by decide +kernel
theorem d_Mo_open_53 : decode prog_9_method_38_code 53 = .ok (.iload_n 3, 1) := by decide +kernel
theorem d_Mo_open_54 : decode prog_9_method_38_code 54 = .ok (.iconst 4, 1) := by decide +kernel
theorem d_Mo_open_55 : decode prog_9_method_38_code 55 = .ok (.irem, 1) := by decide +kernel
theorem d_Mo_open_56 : decode prog_9_method_38_code 56 = .ok (.iload_n 1, 1) := by decide +kernel
theorem d_Mo_open_57 : decode prog_9_method_38_code 57 = .ok (.iconst (-1), 1) := by decide +kernel
theorem d_Mo_open_58 : decode prog_9_method_38_code 58 = .ok (.iload_n 3, 1) := by decide +kernel
theorem d_Mo_open_59 : decode prog_9_method_38_code 59 = .ok (.iconst 4, 1) := by decide +kernel
theorem d_Mo_open_60 : decode prog_9_method_38_code 60 = .ok (.idiv, 1) := by decide +kernel
theorem d_Mo_open_61 : decode prog_9_method_38_code 61 = .ok (.invokevirtual 168, 3) := by decide +kernel
theorem d_Mo_open_64 : decode prog_9_method_38_code 64 = .ok (.aload_n 0, 1) := by decide +kernel
theorem d_Mo_open_65 : decode prog_9_method_38_code 65 = .ok (.aload_n 0, 1) := by decide +kernel
theorem d_Mo_open_66 : decode prog_9_method_38_code 66 = .ok (.getfield 154, 3) := by decide +kernel
theorem d_Mo_open_69 : decode prog_9_method_38_code 69 = .ok (.lneg, 1) := by decide +kernel
theorem d_Mo_open_70 : decode prog_9_method_38_code 70 = .ok (.putfield 154, 3) := by decide +kernel
theorem d_Mo_open_73 : decode prog_9_method_38_code 73 = .ok (.aload_n 0, 1) := by decide +kernel
theorem d_Mo_open_74 : decode prog_9_method_38_code 74 = .ok (.iload_n 3, 1) := by decide +kernel
theorem d_Mo_open_75 : decode prog_9_method_38_code 75 = .ok (.iconst 4, 1) := by decide +kernel
theorem d_Mo_open_76 : decode prog_9_method_38_code 76 = .ok (.irem, 1) := by decide +kernel
theorem d_Mo_open_77 : decode prog_9_method_38_code 77 = .ok (.iload_n 2, 1) := by decide +kernel
theorem d_Mo_open_78 : decode prog_9_method_38_code 78 = .ok (.iconst (-1), 1) := by decide +kernel
theorem d_Mo_open_79 : decode prog_9_method_38_code 79 = .ok (.iload_n 3, 1) := by decide +kernel
theorem d_Mo_open_80 : decode prog_9_method_38_code 80 = .ok (.iconst 4, 1) := by decide +kernel
theorem d_Mo_open_81 : decode prog_9_method_38_code 81 = .ok (.idiv, 1) := by decide +kernel
theorem d_Mo_open_82 : decode prog_9_method_38_code 82 = .ok (.invokevirtual 168, 3) := by decide +kernel
theorem d_Mo_open_85 : decode prog_9_method_38_code 85 = .ok (.iload 4, 2) := by decide +kernel
theorem d_Mo_open_87 : decode prog_9_method_38_code 87 = .ok (.ifCond .ne 10, 3) := by decide +kernel
theorem d_Mo_open_90 : decode prog_9_method_38_code 90 = .ok (.aload_n 0, 1) := by decide +kernel
theorem d_Mo_open_91 : decode prog_9_method_38_code 91 = .ok (.getfield 154, 3) := by decide +kernel
theorem d_Mo_open_94 : decode prog_9_method_38_code 94 = .ok (.goto 7, 3) := by decide +kernel
theorem d_Mo_open_97 : decode prog_9_method_38_code 97 = .ok (.aload_n 0, 1) := by decide +kernel
theorem d_Mo_open_98 : decode prog_9_method_38_code 98 = .ok (.getfield 158, 3) := by decide +kernel
theorem d_Mo_open_101 : decode prog_9_method_38_code 101 = .ok (.lreturn, 1) := by decide +kernel
theorem d_Mo_audit_0 : decode prog_9_method_39_code 0 = .ok (.iload_n 3, 1) := by decide +kernel
theorem d_Mo_audit_1 : decode prog_9_method_39_code 1 = .ok (.iconst 1, 1) := by decide +kernel
theorem d_Mo_audit_2 : decode prog_9_method_39_code 2 = .ok (.if_icmp .lt 11, 3) := by decide +kernel
theorem d_Mo_audit_5 : decode prog_9_method_39_code 5 = .ok (.iload_n 3, 1) := by decide +kernel
theorem d_Mo_audit_6 : decode prog_9_method_39_code 6 = .ok (.aload_n 0, 1) := by decide +kernel
theorem d_Mo_audit_7 : decode prog_9_method_39_code 7 = .ok (.getfield 97, 3) := by decide +kernel
theorem d_Mo_audit_10 : decode prog_9_method_39_code 10 = .ok (.if_icmp .le 5, 3) := by decide +kernel
theorem d_Mo_audit_13 : decode prog_9_method_39_code 13 = .ok (.iconst (-1), 1) := by decide +kernel
theorem d_Mo_audit_14 : decode prog_9_method_39_code 14 = .ok (.ireturn, 1) := by decide +kernel
theorem d_Mo_audit_15 : decode prog_9_method_39_code 15 = .ok (.iconst 0, 1) := by decide +kernel
theorem d_Mo_audit_16 : decode prog_9_method_39_code 16 = .ok (.istore 4, 2) := by decide +kernel
theorem d_Mo_audit_18 : decode prog_9_method_39_code 18 = .ok (.iload 4, 2) := by decide +kernel
theorem d_Mo_audit_20 : decode prog_9_method_39_code 20 = .ok (.aload_n 0, 1) := by decide +kernel
theorem d_Mo_audit_21 : decode prog_9_method_39_code 21 = .ok (.getfield 97, 3) := by decide +kernel
theorem d_Mo_audit_24 : decode prog_9_method_39_code 24 = .ok (.if_icmp .ge 18, 3) := by decide +kernel
theorem d_Mo_audit_27 : decode prog_9_method_39_code 27 = .ok (.aload_n 0, 1) := by decide +kernel
theorem d_Mo_audit_28 : decode prog_9_method_39_code 28 = .ok (.getfield 60, 3) := by decide +kernel
theorem d_Mo_audit_31 : decode prog_9_method_39_code 31 = .ok (.iload 4, 2) := by decide +kernel
theorem d_Mo_audit_33 : decode prog_9_method_39_code 33 = .ok (.iload 4, 2) := by decide +kernel
theorem d_Mo_audit_35 : decode prog_9_method_39_code 35 = .ok (.iastore, 1) := by decide +kernel
theorem d_Mo_audit_36 : decode prog_9_method_39_code 36 = .ok (.iinc 4 1, 3) := by decide +kernel
theorem d_Mo_audit_39 : decode prog_9_method_39_code 39 = .ok (.goto (-21), 3) := by decide +kernel
theorem d_Mo_audit_42 : decode prog_9_method_39_code 42 = .ok (.lload_n 1, 1) := by decide +kernel
theorem d_Mo_audit_43 : decode prog_9_method_39_code 43 = .ok (.lstore 4, 2) := by decide +kernel
theorem d_Mo_audit_45 : decode prog_9_method_39_code 45 = .ok (.iconst 0, 1) := by decide +kernel
theorem d_Mo_audit_46 : decode prog_9_method_39_code 46 = .ok (.istore 6, 2) := by decide +kernel
theorem d_Mo_audit_48 : decode prog_9_method_39_code 48 = .ok (.iload 6, 2) := by decide +kernel
theorem d_Mo_audit_50 : decode prog_9_method_39_code 50 = .ok (.iload_n 3, 1) := by decide +kernel
theorem d_Mo_audit_51 : decode prog_9_method_39_code 51 = .ok (.if_icmp .ge 73, 3) := by decide +kernel
theorem d_Mo_audit_54 : decode prog_9_method_39_code 54 = .ok (.lload 4, 2) := by decide +kernel
theorem d_Mo_audit_56 : decode prog_9_method_39_code 56 = .ok (.ldc2_w 184, 3) := by decide +kernel
theorem d_Mo_audit_59 : decode prog_9_method_39_code 59 = .ok (.lmul, 1) := by decide +kernel
theorem d_Mo_audit_60 : decode prog_9_method_39_code 60 = .ok (.ldc2_w 186, 3) := by decide +kernel
theorem d_Mo_audit_63 : decode prog_9_method_39_code 63 = .ok (.ladd, 1) := by decide +kernel
theorem d_Mo_audit_64 : decode prog_9_method_39_code 64 = .ok (.lstore 4, 2) := by decide +kernel
theorem d_Mo_audit_66 : decode prog_9_method_39_code 66 = .ok (.iload 6, 2) := by decide +kernel
theorem d_Mo_audit_68 : decode prog_9_method_39_code 68 = .ok (.lload 4, 2) := by decide +kernel
theorem d_Mo_audit_70 : decode prog_9_method_39_code 70 = .ok (.bipush 33, 2) := by decide +kernel
theorem d_Mo_audit_72 : decode prog_9_method_39_code 72 = .ok (.lushr, 1) := by decide +kernel
theorem d_Mo_audit_73 : decode prog_9_method_39_code 73 = .ok (.aload_n 0, 1) := by decide +kernel
theorem d_Mo_audit_74 : decode prog_9_method_39_code 74 = .ok (.getfield 97, 3) := by decide +kernel
theorem d_Mo_audit_77 : decode prog_9_method_39_code 77 = .ok (.iload 6, 2) := by decide +kernel
theorem d_Mo_audit_79 : decode prog_9_method_39_code 79 = .ok (.isub, 1) := by decide +kernel
theorem d_Mo_audit_80 : decode prog_9_method_39_code 80 = .ok (.i2l, 1) := by decide +kernel
theorem d_Mo_audit_81 : decode prog_9_method_39_code 81 = .ok (.lrem, 1) := by decide +kernel
theorem d_Mo_audit_82 : decode prog_9_method_39_code 82 = .ok (.l2i, 1) := by decide +kernel
theorem d_Mo_audit_83 : decode prog_9_method_39_code 83 = .ok (.iadd, 1) := by decide +kernel
theorem d_Mo_audit_84 : decode prog_9_method_39_code 84 = .ok (.istore 7, 2) := by decide +kernel
theorem d_Mo_audit_86 : decode prog_9_method_39_code 86 = .ok (.aload_n 0, 1) := by decide +kernel
theorem d_Mo_audit_87 : decode prog_9_method_39_code 87 = .ok (.getfield 60, 3) := by decide +kernel
theorem d_Mo_audit_90 : decode prog_9_method_39_code 90 = .ok (.iload 6, 2) := by decide +kernel
theorem d_Mo_audit_92 : decode prog_9_method_39_code 92 = .ok (.iaload, 1) := by decide +kernel
theorem d_Mo_audit_93 : decode prog_9_method_39_code 93 = .ok (.istore 8, 2) := by decide +kernel
theorem d_Mo_audit_95 : decode prog_9_method_39_code 95 = .ok (.aload_n 0, 1) := by decide +kernel
theorem d_Mo_audit_96 : decode prog_9_method_39_code 96 = .ok (.getfield 60, 3) := by decide +kernel
theorem d_Mo_audit_99 : decode prog_9_method_39_code 99 = .ok (.iload 6, 2) := by decide +kernel
theorem d_Mo_audit_101 : decode prog_9_method_39_code 101 = .ok (.aload_n 0, 1) := by decide +kernel
theorem d_Mo_audit_102 : decode prog_9_method_39_code 102 = .ok (.getfield 60, 3) := by decide +kernel
theorem d_Mo_audit_105 : decode prog_9_method_39_code 105 = .ok (.iload 7, 2) := by decide +kernel
theorem d_Mo_audit_107 : decode prog_9_method_39_code 107 = .ok (.iaload, 1) := by decide +kernel
theorem d_Mo_audit_108 : decode prog_9_method_39_code 108 = .ok (.iastore, 1) := by decide +kernel
theorem d_Mo_audit_109 : decode prog_9_method_39_code 109 = .ok (.aload_n 0, 1) := by decide +kernel
theorem d_Mo_audit_110 : decode prog_9_method_39_code 110 = .ok (.getfield 60, 3) := by decide +kernel
theorem d_Mo_audit_113 : decode prog_9_method_39_code 113 = .ok (.iload 7, 2) := by decide +kernel
theorem d_Mo_audit_115 : decode prog_9_method_39_code 115 = .ok (.iload 8, 2) := by decide +kernel
theorem d_Mo_audit_117 : decode prog_9_method_39_code 117 = .ok (.iastore, 1) := by decide +kernel
theorem d_Mo_audit_118 : decode prog_9_method_39_code 118 = .ok (.iinc 6 1, 3) := by decide +kernel
theorem d_Mo_audit_121 : decode prog_9_method_39_code 121 = .ok (.goto (-73), 3) := by decide +kernel
theorem d_Mo_audit_124 : decode prog_9_method_39_code 124 = .ok (.aload_n 0, 1) := by decide +kernel
theorem d_Mo_audit_125 : decode prog_9_method_39_code 125 = .ok (.iload_n 3, 1) := by decide +kernel
theorem d_Mo_audit_126 : decode prog_9_method_39_code 126 = .ok (.putfield 188, 3) := by decide +kernel
theorem d_Mo_audit_129 : decode prog_9_method_39_code 129 = .ok (.iload_n 3, 1) := by decide +kernel
theorem d_Mo_audit_130 : decode prog_9_method_39_code 130 = .ok (.ireturn, 1) := by decide +kernel
theorem d_Mo_drawn_0 : decode prog_9_method_40_code 0 = .ok (.iload_n 1, 1) := by decide +kernel
theorem d_Mo_drawn_1 : decode prog_9_method_40_code 1 = .ok (.ifCond .lt 20, 3) := by decide +kernel
theorem d_Mo_drawn_4 : decode prog_9_method_40_code 4 = .ok (.iload_n 1, 1) := by decide +kernel
theorem d_Mo_drawn_5 : decode prog_9_method_40_code 5 = .ok (.aload_n 0, 1) := by decide +kernel
theorem d_Mo_drawn_6 : decode prog_9_method_40_code 6 = .ok (.getfield 188, 3) := by decide +kernel
theorem d_Mo_drawn_9 : decode prog_9_method_40_code 9 = .ok (.if_icmp .ge 12, 3) := by decide +kernel
theorem d_Mo_drawn_12 : decode prog_9_method_40_code 12 = .ok (.aload_n 0, 1) := by decide +kernel
theorem d_Mo_drawn_13 : decode prog_9_method_40_code 13 = .ok (.getfield 60, 3) := by decide +kernel
theorem d_Mo_drawn_16 : decode prog_9_method_40_code 16 = .ok (.iload_n 1, 1) := by decide +kernel
theorem d_Mo_drawn_17 : decode prog_9_method_40_code 17 = .ok (.iaload, 1) := by decide +kernel
theorem d_Mo_drawn_18 : decode prog_9_method_40_code 18 = .ok (.goto 4, 3) := by decide +kernel
theorem d_Mo_drawn_21 : decode prog_9_method_40_code 21 = .ok (.iconst (-1), 1) := by decide +kernel
theorem d_Mo_drawn_22 : decode prog_9_method_40_code 22 = .ok (.ireturn, 1) := by decide +kernel
theorem d_Mo_unit_0 : decode prog_9_method_41_code 0 = .ok (.iload_n 1, 1) := by decide +kernel
theorem d_Mo_unit_1 : decode prog_9_method_41_code 1 = .ok (.ifCond .lt 20, 3) := by decide +kernel
theorem d_Mo_unit_4 : decode prog_9_method_41_code 4 = .ok (.iload_n 1, 1) := by decide +kernel
theorem d_Mo_unit_5 : decode prog_9_method_41_code 5 = .ok (.sipush 255, 3) := by decide +kernel
theorem d_Mo_unit_8 : decode prog_9_method_41_code 8 = .ok (.if_icmp .gt 13, 3) := by decide +kernel
theorem d_Mo_unit_11 : decode prog_9_method_41_code 11 = .ok (.aload_n 0, 1) := by decide +kernel
theorem d_Mo_unit_12 : decode prog_9_method_41_code 12 = .ok (.getfield 191, 3) := by decide +kernel
theorem d_Mo_unit_15 : decode prog_9_method_41_code 15 = .ok (.sipush 200, 3) := by decide +kernel
theorem d_Mo_unit_18 : decode prog_9_method_41_code 18 = .ok (.if_icmp .ne 5, 3) := by decide +kernel
theorem d_Mo_unit_21 : decode prog_9_method_41_code 21 = .ok (.iconst 0, 1) := by decide +kernel
theorem d_Mo_unit_22 : decode prog_9_method_41_code 22 = .ok (.ireturn, 1) := by decide +kernel
theorem d_Mo_unit_23 : decode prog_9_method_41_code 23 = .ok (.aload_n 0, 1) := by decide +kernel
theorem d_Mo_unit_24 : decode prog_9_method_41_code 24 = .ok (.getfield 63, 3) := by decide +kernel
theorem d_Mo_unit_27 : decode prog_9_method_41_code 27 = .ok (.aload_n 0, 1) := by decide +kernel
theorem d_Mo_unit_28 : decode prog_9_method_41_code 28 = .ok (.getfield 191, 3) := by decide +kernel
theorem d_Mo_unit_31 : decode prog_9_method_41_code 31 = .ok (.iload_n 1, 1) := by decide +kernel
theorem d_Mo_unit_32 : decode prog_9_method_41_code 32 = .ok (.iastore, 1) := by decide +kernel
theorem d_Mo_unit_33 : decode prog_9_method_41_code 33 = .ok (.aload_n 0, 1) := by decide +kernel
theorem d_Mo_unit_34 : decode prog_9_method_41_code 34 = .ok (.dup, 1) := by decide +kernel
theorem d_Mo_unit_35 : decode prog_9_method_41_code 35 = .ok (.getfield 191, 3) := by decide +kernel
theorem d_Mo_unit_38 : decode prog_9_method_41_code 38 = .ok (.iconst 1, 1) := by decide +kernel
theorem d_Mo_unit_39 : decode prog_9_method_41_code 39 = .ok (.iadd, 1) := by decide +kernel
theorem d_Mo_unit_40 : decode prog_9_method_41_code 40 = .ok (.putfield 191, 3) := by decide +kernel
theorem d_Mo_unit_43 : decode prog_9_method_41_code 43 = .ok (.iconst 1, 1) := by decide +kernel
theorem d_Mo_unit_44 : decode prog_9_method_41_code 44 = .ok (.ireturn, 1) := by decide +kernel
theorem d_Mo_form_0 : decode prog_9_method_45_code 0 = .ok (.iload_n 1, 1) := by decide +kernel
theorem d_Mo_form_1 : decode prog_9_method_45_code 1 = .ok (.ifCond .ge 5, 3) := by decide +kernel
theorem d_Mo_form_4 : decode prog_9_method_45_code 4 = .ok (.iconst (-1), 1) := by decide +kernel
theorem d_Mo_form_5 : decode prog_9_method_45_code 5 = .ok (.ireturn, 1) := by decide +kernel
theorem d_Mo_form_6 : decode prog_9_method_45_code 6 = .ok (.iconst 0, 1) := by decide +kernel
theorem d_Mo_form_7 : decode prog_9_method_45_code 7 = .ok (.istore_n 2, 1) := by decide +kernel
theorem d_Mo_form_8 : decode prog_9_method_45_code 8 = .ok (.iload_n 1, 1) := by decide +kernel
theorem d_Mo_form_9 : decode prog_9_method_45_code 9 = .ok (.istore_n 3, 1) := by decide +kernel
theorem d_Mo_form_10 : decode prog_9_method_45_code 10 = .ok (.iload_n 2, 1) := by decide +kernel
theorem d_Mo_form_11 : decode prog_9_method_45_code 11 = .ok (.aload_n 0, 1) := by decide +kernel
theorem d_Mo_form_12 : decode prog_9_method_45_code 12 = .ok (.getfield 191, 3) := by decide +kernel
theorem d_Mo_form_15 : decode prog_9_method_45_code 15 = .ok (.if_icmp .ge 138, 3) := by decide +kernel
theorem d_Mo_form_18 : decode prog_9_method_45_code 18 = .ok (.iconst 1, 1) := by decide +kernel
theorem d_Mo_form_19 : decode prog_9_method_45_code 19 = .ok (.istore 4, 2) := by decide +kernel
theorem d_Mo_form_21 : decode prog_9_method_45_code 21 = .ok (.ldc2_w 172, 3) := by decide +kernel
theorem d_Mo_form_24 : decode prog_9_method_45_code 24 = .ok (.lstore 5, 2) := by decide +kernel
theorem d_Mo_form_26 : decode prog_9_method_45_code 26 = .ok (.aload_n 0, 1) := by decide +kernel
theorem d_Mo_form_27 : decode prog_9_method_45_code 27 = .ok (.iload_n 2, 1) := by decide +kernel
theorem d_Mo_form_28 : decode prog_9_method_45_code 28 = .ok (.invokevirtual 198, 3) := by decide +kernel
theorem d_Mo_form_31 : decode prog_9_method_45_code 31 = .ok (.istore 7, 2) := by decide +kernel
theorem d_Mo_form_33 : decode prog_9_method_45_code 33 = .ok (.iload 7, 2) := by decide +kernel
theorem d_Mo_form_35 : decode prog_9_method_45_code 35 = .ok (.ifCond .eq 55, 3) := by decide +kernel
theorem d_Mo_form_38 : decode prog_9_method_45_code 38 = .ok (.aload_n 0, 1) := by decide +kernel
theorem d_Mo_form_39 : decode prog_9_method_45_code 39 = .ok (.getfield 141, 3) := by decide +kernel
theorem d_Mo_form_42 : decode prog_9_method_45_code 42 = .ok (.ifCond .eq 48, 3) := by decide +kernel
theorem d_Mo_form_45 : decode prog_9_method_45_code 45 = .ok (.aload_n 0, 1) := by decide +kernel
theorem d_Mo_form_46 : decode prog_9_method_45_code 46 = .ok (.aload_n 0, 1) := by decide +kernel
theorem d_Mo_form_47 : decode prog_9_method_45_code 47 = .ok (.getfield 63, 3) := by decide +kernel
theorem d_Mo_form_50 : decode prog_9_method_45_code 50 = .ok (.iload_n 2, 1) := by decide +kernel
theorem d_Mo_form_51 : decode prog_9_method_45_code 51 = .ok (.iconst 1, 1) := by decide +kernel
theorem d_Mo_form_52 : decode prog_9_method_45_code 52 = .ok (.iadd, 1) := by decide +kernel
theorem d_Mo_form_53 : decode prog_9_method_45_code 53 = .ok (.iaload, 1) := by decide +kernel
theorem d_Mo_form_54 : decode prog_9_method_45_code 54 = .ok (.bipush 48, 2) := by decide +kernel
theorem d_Mo_form_56 : decode prog_9_method_45_code 56 = .ok (.isub, 1) := by decide +kernel
theorem d_Mo_form_57 : decode prog_9_method_45_code 57 = .ok (.aload_n 0, 1) := by decide +kernel
theorem d_Mo_form_58 : decode prog_9_method_45_code 58 = .ok (.getfield 63, 3) := by decide +kernel
theorem d_Mo_form_61 : decode prog_9_method_45_code 61 = .ok (.iload_n 2, 1) := by decide +kernel
theorem d_Mo_form_62 : decode prog_9_method_45_code 62 = .ok (.iconst 2, 1) := by decide +kernel
theorem d_Mo_form_63 : decode prog_9_method_45_code 63 = .ok (.iadd, 1) := by decide +kernel
theorem d_Mo_form_64 : decode prog_9_method_45_code 64 = .ok (.iaload, 1) := by decide +kernel
theorem d_Mo_form_65 : decode prog_9_method_45_code 65 = .ok (.bipush 48, 2) := by decide +kernel
theorem d_Mo_form_67 : decode prog_9_method_45_code 67 = .ok (.isub, 1) := by decide +kernel
theorem d_Mo_form_68 : decode prog_9_method_45_code 68 = .ok (.iconst (-1), 1) := by decide +kernel
theorem d_Mo_form_69 : decode prog_9_method_45_code 69 = .ok (.invokevirtual 174, 3) := by decide +kernel
theorem d_Mo_form_72 : decode prog_9_method_45_code 72 = .ok (.aload_n 0, 1) := by decide +kernel
theorem d_Mo_form_73 : decode prog_9_method_45_code 73 = .ok (.getfield 154, 3) := by decide +kernel
theorem d_Mo_form_76 : decode prog_9_method_45_code 76 = .ok (.aload_n 0, 1) := by decide +kernel
theorem d_Mo_form_77 : decode prog_9_method_45_code 77 = .ok (.getfield 158, 3) := by decide +kernel
theorem d_Mo_form_80 : decode prog_9_method_45_code 80 = .ok (.ldiv, 1) := by decide +kernel
theorem d_Mo_form_81 : decode prog_9_method_45_code 81 = .ok (.lstore 5, 2) := by decide +kernel
theorem d_Mo_form_83 : decode prog_9_method_45_code 83 = .ok (.lload 5, 2) := by decide +kernel
theorem d_Mo_form_85 : decode prog_9_method_45_code 85 = .ok (.invokestatic 194, 3) := by decide +kernel
theorem d_Mo_form_88 : decode prog_9_method_45_code 88 = .ok (.istore 4, 2) := by decide +kernel
theorem d_Mo_form_90 : decode prog_9_method_45_code 90 = .ok (.iload_n 3, 1) := by decide +kernel
theorem d_Mo_form_91 : decode prog_9_method_45_code 91 = .ok (.iload 4, 2) := by decide +kernel
theorem d_Mo_form_93 : decode prog_9_method_45_code 93 = .ok (.if_icmp .ge 39, 3) := by decide +kernel
theorem d_Mo_form_96 : decode prog_9_method_45_code 96 = .ok (.iload 7, 2) := by decide +kernel
theorem d_Mo_form_98 : decode prog_9_method_45_code 98 = .ok (.ifCond .ne 12, 3) := by decide +kernel
theorem d_Mo_form_101 : decode prog_9_method_45_code 101 = .ok (.aload_n 0, 1) := by decide +kernel
theorem d_Mo_form_102 : decode prog_9_method_45_code 102 = .ok (.getfield 63, 3) := by decide +kernel
theorem d_Mo_form_105 : decode prog_9_method_45_code 105 = .ok (.iload_n 2, 1) := by decide +kernel
theorem d_Mo_form_106 : decode prog_9_method_45_code 106 = .ok (.iaload, 1) := by decide +kernel
theorem d_Mo_form_107 : decode prog_9_method_45_code 107 = .ok (.goto 24, 3) := by decide +kernel
theorem d_Mo_form_110 : decode prog_9_method_45_code 110 = .ok (.aload_n 0, 1) := by decide +kernel
theorem d_Mo_form_111 : decode prog_9_method_45_code 111 = .ok (.getfield 141, 3) := by decide +kernel
theorem d_Mo_form_114 : decode prog_9_method_45_code 114 = .ok (.ifCond .eq 15, 3) := by decide +kernel
theorem d_Mo_form_117 : decode prog_9_method_45_code 117 = .ok (.bipush 48, 2) := by decide +kernel
theorem d_Mo_form_119 : decode prog_9_method_45_code 119 = .ok (.lload 5, 2) := by decide +kernel
theorem d_Mo_form_121 : decode prog_9_method_45_code 121 = .ok (.iload_n 3, 1) := by decide +kernel
theorem d_Mo_form_122 : decode prog_9_method_45_code 122 = .ok (.invokestatic 201, 3) := by decide +kernel
theorem d_Mo_form_125 : decode prog_9_method_45_code 125 = .ok (.iadd, 1) := by decide +kernel
theorem d_Mo_form_126 : decode prog_9_method_45_code 126 = .ok (.goto 5, 3) := by decide +kernel
theorem d_Mo_form_129 : decode prog_9_method_45_code 129 = .ok (.bipush 45, 2) := by decide +kernel
theorem d_Mo_form_131 : decode prog_9_method_45_code 131 = .ok (.ireturn, 1) := by decide +kernel
theorem d_Mo_form_132 : decode prog_9_method_45_code 132 = .ok (.iload_n 3, 1) := by decide +kernel
theorem d_Mo_form_133 : decode prog_9_method_45_code 133 = .ok (.iload 4, 2) := by decide +kernel
theorem d_Mo_form_135 : decode prog_9_method_45_code 135 = .ok (.isub, 1) := by decide +kernel
theorem d_Mo_form_136 : decode prog_9_method_45_code 136 = .ok (.istore_n 3, 1) := by decide +kernel
theorem d_Mo_form_137 : decode prog_9_method_45_code 137 = .ok (.iload_n 2, 1) := by decide +kernel
theorem d_Mo_form_138 : decode prog_9_method_45_code 138 = .ok (.iload 7, 2) := by decide +kernel
theorem d_Mo_form_140 : decode prog_9_method_45_code 140 = .ok (.ifCond .eq 7, 3) := by decide +kernel
theorem d_Mo_form_143 : decode prog_9_method_45_code 143 = .ok (.iconst 3, 1) := by decide +kernel
theorem d_Mo_form_144 : decode prog_9_method_45_code 144 = .ok (.goto 4, 3) := by decide +kernel
theorem d_Mo_form_147 : decode prog_9_method_45_code 147 = .ok (.iconst 1, 1) := by decide +kernel
theorem d_Mo_form_148 : decode prog_9_method_45_code 148 = .ok (.iadd, 1) := by decide +kernel
theorem d_Mo_form_149 : decode prog_9_method_45_code 149 = .ok (.istore_n 2, 1) := by decide +kernel
theorem d_Mo_form_150 : decode prog_9_method_45_code 150 = .ok (.goto (-140), 3) := by decide +kernel
theorem d_Mo_form_153 : decode prog_9_method_45_code 153 = .ok (.iconst (-1), 1) := by decide +kernel
theorem d_Mo_form_154 : decode prog_9_method_45_code 154 = .ok (.ireturn, 1) := by decide +kernel
theorem d_Mo_isNumberAt_0 : decode prog_9_method_42_code 0 = .ok (.iload_n 1, 1) := by decide +kernel
theorem d_Mo_isNumberAt_1 : decode prog_9_method_42_code 1 = .ok (.iconst 2, 1) := by decide +kernel
theorem d_Mo_isNumberAt_2 : decode prog_9_method_42_code 2 = .ok (.iadd, 1) := by decide +kernel
theorem d_Mo_isNumberAt_3 : decode prog_9_method_42_code 3 = .ok (.aload_n 0, 1) := by decide +kernel
theorem d_Mo_isNumberAt_4 : decode prog_9_method_42_code 4 = .ok (.getfield 191, 3) := by decide +kernel
theorem d_Mo_isNumberAt_7 : decode prog_9_method_42_code 7 = .ok (.if_icmp .ge 70, 3) := by decide +kernel
theorem d_Mo_isNumberAt_10 : decode prog_9_method_42_code 10 = .ok (.aload_n 0, 1) := by decide +kernel
theorem d_Mo_isNumberAt_11 : decode prog_9_method_42_code 11 = .ok (.getfield 63, 3) := by decide +kernel
theorem d_Mo_isNumberAt_14 : decode prog_9_method_42_code 14 = .ok (.iload_n 1, 1) := by decide +kernel
theorem d_Mo_isNumberAt_15 : decode prog_9_method_42_code 15 = .ok (.iaload, 1) := by decide +kernel
theorem d_Mo_isNumberAt_16 : decode prog_9_method_42_code 16 = .ok (.bipush 35, 2) := by decide +kernel
theorem d_Mo_isNumberAt_18 : decode prog_9_method_42_code 18 = .ok (.if_icmp .ne 59, 3) := by decide +kernel
theorem d_Mo_isNumberAt_21 : decode prog_9_method_42_code 21 = .ok (.aload_n 0, 1) := by decide +kernel
theorem d_Mo_isNumberAt_22 : decode prog_9_method_42_code 22 = .ok (.getfield 63, 3) := by decide +kernel
theorem d_Mo_isNumberAt_25 : decode prog_9_method_42_code 25 = .ok (.iload_n 1, 1) := by decide +kernel
theorem d_Mo_isNumberAt_26 : decode prog_9_method_42_code 26 = .ok (.iconst 1, 1) := by decide +kernel
theorem d_Mo_isNumberAt_27 : decode prog_9_method_42_code 27 = .ok (.iadd, 1) := by decide +kernel
theorem d_Mo_isNumberAt_28 : decode prog_9_method_42_code 28 = .ok (.iaload, 1) := by decide +kernel
theorem d_Mo_isNumberAt_29 : decode prog_9_method_42_code 29 = .ok (.bipush 48, 2) := by decide +kernel
theorem d_Mo_isNumberAt_31 : decode prog_9_method_42_code 31 = .ok (.if_icmp .lt 46, 3) := by decide +kernel
theorem d_Mo_isNumberAt_34 : decode prog_9_method_42_code 34 = .ok (.aload_n 0, 1) := by decide +kernel
theorem d_Mo_isNumberAt_35 : decode prog_9_method_42_code 35 = .ok (.getfield 63, 3) := by decide +kernel
theorem d_Mo_isNumberAt_38 : decode prog_9_method_42_code 38 = .ok (.iload_n 1, 1) := by decide +kernel
theorem d_Mo_isNumberAt_39 : decode prog_9_method_42_code 39 = .ok (.iconst 1, 1) := by decide +kernel
theorem d_Mo_isNumberAt_40 : decode prog_9_method_42_code 40 = .ok (.iadd, 1) := by decide +kernel
theorem d_Mo_isNumberAt_41 : decode prog_9_method_42_code 41 = .ok (.iaload, 1) := by decide +kernel
theorem d_Mo_isNumberAt_42 : decode prog_9_method_42_code 42 = .ok (.bipush 51, 2) := by decide +kernel
theorem d_Mo_isNumberAt_44 : decode prog_9_method_42_code 44 = .ok (.if_icmp .gt 33, 3) := by decide +kernel
theorem d_Mo_isNumberAt_47 : decode prog_9_method_42_code 47 = .ok (.aload_n 0, 1) := by decide +kernel
theorem d_Mo_isNumberAt_48 : decode prog_9_method_42_code 48 = .ok (.getfield 63, 3) := by decide +kernel
theorem d_Mo_isNumberAt_51 : decode prog_9_method_42_code 51 = .ok (.iload_n 1, 1) := by decide +kernel
theorem d_Mo_isNumberAt_52 : decode prog_9_method_42_code 52 = .ok (.iconst 2, 1) := by decide +kernel
theorem d_Mo_isNumberAt_53 : decode prog_9_method_42_code 53 = .ok (.iadd, 1) := by decide +kernel
theorem d_Mo_isNumberAt_54 : decode prog_9_method_42_code 54 = .ok (.iaload, 1) := by decide +kernel
theorem d_Mo_isNumberAt_55 : decode prog_9_method_42_code 55 = .ok (.bipush 48, 2) := by decide +kernel
theorem d_Mo_isNumberAt_57 : decode prog_9_method_42_code 57 = .ok (.if_icmp .lt 20, 3) := by decide +kernel
theorem d_Mo_isNumberAt_60 : decode prog_9_method_42_code 60 = .ok (.aload_n 0, 1) := by decide +kernel
theorem d_Mo_isNumberAt_61 : decode prog_9_method_42_code 61 = .ok (.getfield 63, 3) := by decide +kernel
theorem d_Mo_isNumberAt_64 : decode prog_9_method_42_code 64 = .ok (.iload_n 1, 1) := by decide +kernel
theorem d_Mo_isNumberAt_65 : decode prog_9_method_42_code 65 = .ok (.iconst 2, 1) := by decide +kernel
theorem d_Mo_isNumberAt_66 : decode prog_9_method_42_code 66 = .ok (.iadd, 1) := by decide +kernel
theorem d_Mo_isNumberAt_67 : decode prog_9_method_42_code 67 = .ok (.iaload, 1) := by decide +kernel
theorem d_Mo_isNumberAt_68 : decode prog_9_method_42_code 68 = .ok (.bipush 57, 2) := by decide +kernel
theorem d_Mo_isNumberAt_70 : decode prog_9_method_42_code 70 = .ok (.if_icmp .gt 7, 3) := by decide +kernel
theorem d_Mo_isNumberAt_73 : decode prog_9_method_42_code 73 = .ok (.iconst 1, 1) := by decide +kernel
theorem d_Mo_isNumberAt_74 : decode prog_9_method_42_code 74 = .ok (.goto 4, 3) := by decide +kernel
theorem d_Mo_isNumberAt_77 : decode prog_9_method_42_code 77 = .ok (.iconst 0, 1) := by decide +kernel
theorem d_Mo_isNumberAt_78 : decode prog_9_method_42_code 78 = .ok (.ireturn, 1) := by decide +kernel
theorem d_Mo_length_0 : decode prog_9_method_43_code 0 = .ok (.iconst 1, 1) := by decide +kernel
theorem d_Mo_length_1 : decode prog_9_method_43_code 1 = .ok (.istore_n 2, 1) := by decide +kernel
theorem d_Mo_length_2 : decode prog_9_method_43_code 2 = .ok (.lload_n 0, 1) := by decide +kernel
theorem d_Mo_length_3 : decode prog_9_method_43_code 3 = .ok (.ldc2_w 80, 3) := by decide +kernel
theorem d_Mo_length_6 : decode prog_9_method_43_code 6 = .ok (.ldiv, 1) := by decide +kernel
theorem d_Mo_length_7 : decode prog_9_method_43_code 7 = .ok (.lstore_n 3, 1) := by decide +kernel
theorem d_Mo_length_8 : decode prog_9_method_43_code 8 = .ok (.lload_n 3, 1) := by decide +kernel
theorem d_Mo_length_9 : decode prog_9_method_43_code 9 = .ok (.lconst 0, 1) := by decide +kernel
theorem d_Mo_length_10 : decode prog_9_method_43_code 10 = .ok (.lcmp, 1) := by decide +kernel
theorem d_Mo_length_11 : decode prog_9_method_43_code 11 = .ok (.ifCond .le 15, 3) := by decide +kernel
theorem d_Mo_length_14 : decode prog_9_method_43_code 14 = .ok (.iinc 2 1, 3) := by decide +kernel
theorem d_Mo_length_17 : decode prog_9_method_43_code 17 = .ok (.lload_n 3, 1) := by decide +kernel
theorem d_Mo_length_18 : decode prog_9_method_43_code 18 = .ok (.ldc2_w 80, 3) := by decide +kernel
theorem d_Mo_length_21 : decode prog_9_method_43_code 21 = .ok (.ldiv, 1) := by decide +kernel
theorem d_Mo_length_22 : decode prog_9_method_43_code 22 = .ok (.lstore_n 3, 1) := by decide +kernel
theorem d_Mo_length_23 : decode prog_9_method_43_code 23 = .ok (.goto (-15), 3) := by decide +kernel
theorem d_Mo_length_26 : decode prog_9_method_43_code 26 = .ok (.iload_n 2, 1) := by decide +kernel
theorem d_Mo_length_27 : decode prog_9_method_43_code 27 = .ok (.ireturn, 1) := by decide +kernel
theorem d_Mo_digit_0 : decode prog_9_method_44_code 0 = .ok (.lload_n 0, 1) := by decide +kernel
theorem d_Mo_digit_1 : decode prog_9_method_44_code 1 = .ok (.lstore_n 3, 1) := by decide +kernel
theorem d_Mo_digit_2 : decode prog_9_method_44_code 2 = .ok (.lload_n 0, 1) := by decide +kernel
theorem d_Mo_digit_3 : decode prog_9_method_44_code 3 = .ok (.invokestatic 194, 3) := by decide +kernel
theorem d_Mo_digit_6 : decode prog_9_method_44_code 6 = .ok (.iconst 1, 1) := by decide +kernel
theorem d_Mo_digit_7 : decode prog_9_method_44_code 7 = .ok (.isub, 1) := by decide +kernel
theorem d_Mo_digit_8 : decode prog_9_method_44_code 8 = .ok (.istore 5, 2) := by decide +kernel
theorem d_Mo_digit_10 : decode prog_9_method_44_code 10 = .ok (.iload 5, 2) := by decide +kernel
theorem d_Mo_digit_12 : decode prog_9_method_44_code 12 = .ok (.iload_n 2, 1) := by decide +kernel
theorem d_Mo_digit_13 : decode prog_9_method_44_code 13 = .ok (.if_icmp .le 15, 3) := by decide +kernel
theorem d_Mo_digit_16 : decode prog_9_method_44_code 16 = .ok (.lload_n 3, 1) := by decide +kernel
theorem d_Mo_digit_17 : decode prog_9_method_44_code 17 = .ok (.ldc2_w 80, 3) := by decide +kernel
theorem d_Mo_digit_20 : decode prog_9_method_44_code 20 = .ok (.ldiv, 1) := by decide +kernel
theorem d_Mo_digit_21 : decode prog_9_method_44_code 21 = .ok (.lstore_n 3, 1) := by decide +kernel
theorem d_Mo_digit_22 : decode prog_9_method_44_code 22 = .ok (.iinc 5 (-1), 3) := by decide +kernel
theorem d_Mo_digit_25 : decode prog_9_method_44_code 25 = .ok (.goto (-15), 3) := by decide +kernel
theorem d_Mo_digit_28 : decode prog_9_method_44_code 28 = .ok (.lload_n 3, 1) := by decide +kernel
theorem d_Mo_digit_29 : decode prog_9_method_44_code 29 = .ok (.ldc2_w 80, 3) := by decide +kernel
theorem d_Mo_digit_32 : decode prog_9_method_44_code 32 = .ok (.lrem, 1) := by decide +kernel
theorem d_Mo_digit_33 : decode prog_9_method_44_code 33 = .ok (.l2i, 1) := by decide +kernel
theorem d_Mo_digit_34 : decode prog_9_method_44_code 34 = .ok (.ireturn, 1) := by decide +kernel
