theorem d_Mo_init_0 : decode (am_Mof y_Mo_init).1 0 = .ok (.aload_n 0, 1) := by decide +kernel
theorem d_Mo_init_1 : decode (am_Mof y_Mo_init).1 1 = .ok (.invokespecial 1, 3) := by decide +kernel
theorem d_Mo_init_4 : decode (am_Mof y_Mo_init).1 4 = .ok (.aload_n 0, 1) := by decide +kernel
theorem d_Mo_init_5 : decode (am_Mof y_Mo_init).1 5 = .ok (.bipush 25, 2) := by decide +kernel
theorem d_Mo_init_7 : decode (am_Mof y_Mo_init).1 7 = .ok (.newarray .int, 2) := by decide +kernel
theorem d_Mo_init_9 : decode (am_Mof y_Mo_init).1 9 = .ok (.putfield 7, 3) := by decide +kernel
theorem d_Mo_init_12 : decode (am_Mof y_Mo_init).1 12 = .ok (.aload_n 0, 1) := by decide +kernel
theorem d_Mo_init_13 : decode (am_Mof y_Mo_init).1 13 = .ok (.bipush 20, 2) := by decide +kernel
theorem d_Mo_init_15 : decode (am_Mof y_Mo_init).1 15 = .ok (.newarray .boolean, 2) := by decide +kernel
theorem d_Mo_init_17 : decode (am_Mof y_Mo_init).1 17 = .ok (.putfield 13, 3) := by decide +kernel
theorem d_Mo_init_20 : decode (am_Mof y_Mo_init).1 20 = .ok (.aload_n 0, 1) := by decide +kernel
theorem d_Mo_init_21 : decode (am_Mof y_Mo_init).1 21 = .ok (.iconst 5, 1) := by decide +kernel
theorem d_Mo_init_22 : decode (am_Mof y_Mo_init).1 22 = .ok (.newarray .boolean, 2) := by decide +kernel
theorem d_Mo_init_24 : decode (am_Mof y_Mo_init).1 24 = .ok (.putfield 17, 3) := by decide +kernel
theorem d_Mo_init_27 : decode (am_Mof y_Mo_init).1 27 = .ok (.aload_n 0, 1) := by decide +kernel
theorem d_Mo_init_28 : decode (am_Mof y_Mo_init).1 28 = .ok (.iconst 5, 1) := by decide +kernel
theorem d_Mo_init_29 : decode (am_Mof y_Mo_init).1 29 = .ok (.newarray .int, 2) := by decide +kernel
theorem d_Mo_init_31 : decode (am_Mof y_Mo_init).1 31 = .ok (.putfield 20, 3) := by decide +kernel
theorem d_Mo_init_34 : decode (am_Mof y_Mo_init).1 34 = .ok (.aload_n 0, 1) := by decide +kernel
theorem d_Mo_init_35 : decode (am_Mof y_Mo_init).1 35 = .ok (.bipush 60, 2) := by decide +kernel
theorem d_Mo_init_37 : decode (am_Mof y_Mo_init).1 37 = .ok (.newarray .int, 2) := by decide +kernel
theorem d_Mo_init_39 : decode (am_Mof y_Mo_init).1 39 = .ok (.putfield 23, 3) := by decide +kernel
theorem d_Mo_init_42 : decode (am_Mof y_Mo_init).1 42 = .ok (.aload_n 0, 1) := by decide +kernel
theorem d_Mo_init_43 : decode (am_Mof y_Mo_init).1 43 = .ok (.bipush 60, 2) := by decide +kernel
theorem d_Mo_init_45 : decode (am_Mof y_Mo_init).1 45 = .ok (.newarray .int, 2) := by decide +kernel
theorem d_Mo_init_47 : decode (am_Mof y_Mo_init).1 47 = .ok (.putfield 26, 3) := by decide +kernel
theorem d_Mo_init_50 : decode (am_Mof y_Mo_init).1 50 = .ok (.aload_n 0, 1) := by decide +kernel
theorem d_Mo_init_51 : decode (am_Mof y_Mo_init).1 51 = .ok (.bipush 60, 2) := by decide +kernel
theorem d_Mo_init_53 : decode (am_Mof y_Mo_init).1 53 = .ok (.newarray .int, 2) := by decide +kernel
theorem d_Mo_init_55 : decode (am_Mof y_Mo_init).1 55 = .ok (.putfield 29, 3) := by decide +kernel
theorem d_Mo_init_58 : decode (am_Mof y_Mo_init).1 58 = .ok (.aload_n 0, 1) := by decide +kernel
theorem d_Mo_init_59 : decode (am_Mof y_Mo_init).1 59 = .ok (.bipush 60, 2) := by decide +kernel
theorem d_Mo_init_61 : decode (am_Mof y_Mo_init).1 61 = .ok (.newarray .int, 2) := by decide +kernel
theorem d_Mo_init_63 : decode (am_Mof y_Mo_init).1 63 = .ok (.putfield 32, 3) := by decide +kernel
theorem d_Mo_init_66 : decode (am_Mof y_Mo_init).1 66 = .ok (.aload_n 0, 1) := by decide +kernel
theorem d_Mo_init_67 : decode (am_Mof y_Mo_init).1 67 = .ok (.bipush 60, 2) := by decide +kernel
theorem d_Mo_init_69 : decode (am_Mof y_Mo_init).1 69 = .ok (.newarray .long, 2) := by decide +kernel
theorem d_Mo_init_71 : decode (am_Mof y_Mo_init).1 71 = .ok (.putfield 35, 3) := by decide +kernel
theorem d_Mo_init_74 : decode (am_Mof y_Mo_init).1 74 = .ok (.aload_n 0, 1) := by decide +kernel
theorem d_Mo_init_75 : decode (am_Mof y_Mo_init).1 75 = .ok (.bipush 10, 2) := by decide +kernel
theorem d_Mo_init_77 : decode (am_Mof y_Mo_init).1 77 = .ok (.newarray .long, 2) := by decide +kernel
theorem d_Mo_init_79 : decode (am_Mof y_Mo_init).1 79 = .ok (.putfield 39, 3) := by decide +kernel
theorem d_Mo_init_82 : decode (am_Mof y_Mo_init).1 82 = .ok (.aload_n 0, 1) := by decide +kernel
theorem d_Mo_init_83 : decode (am_Mof y_Mo_init).1 83 = .ok (.bipush 40, 2) := by decide +kernel
theorem d_Mo_init_85 : decode (am_Mof y_Mo_init).1 85 = .ok (.newarray .long, 2) := by decide +kernel
theorem d_Mo_init_87 : decode (am_Mof y_Mo_init).1 87 = .ok (.putfield 42, 3) := by decide +kernel
theorem d_Mo_init_90 : decode (am_Mof y_Mo_init).1 90 = .ok (.aload_n 0, 1) := by decide +kernel
theorem d_Mo_init_91 : decode (am_Mof y_Mo_init).1 91 = .ok (.bipush 20, 2) := by decide +kernel
theorem d_Mo_init_93 : decode (am_Mof y_Mo_init).1 93 = .ok (.newarray .long, 2) := by decide +kernel
theorem d_Mo_init_95 : decode (am_Mof y_Mo_init).1 95 = .ok (.putfield 45, 3) := by decide +kernel
theorem d_Mo_init_98 : decode (am_Mof y_Mo_init).1 98 = .ok (.aload_n 0, 1) := by decide +kernel
theorem d_Mo_init_99 : decode (am_Mof y_Mo_init).1 99 = .ok (.bipush 20, 2) := by decide +kernel
theorem d_Mo_init_101 : decode (am_Mof y_Mo_init).1 101 = .ok (.newarray .long, 2) := by decide +kernel
theorem d_Mo_init_103 : decode (am_Mof y_Mo_init).1 103 = .ok (.putfield 48, 3) := by decide +kernel
theorem d_Mo_init_106 : decode (am_Mof y_Mo_init).1 106 = .ok (.aload_n 0, 1) := by decide +kernel
theorem d_Mo_init_107 : decode (am_Mof y_Mo_init).1 107 = .ok (.bipush 20, 2) := by decide +kernel
theorem d_Mo_init_109 : decode (am_Mof y_Mo_init).1 109 = .ok (.newarray .boolean, 2) := by decide +kernel
theorem d_Mo_init_111 : decode (am_Mof y_Mo_init).1 111 = .ok (.putfield 51, 3) := by decide +kernel
theorem d_Mo_init_114 : decode (am_Mof y_Mo_init).1 114 = .ok (.aload_n 0, 1) := by decide +kernel
theorem d_Mo_init_115 : decode (am_Mof y_Mo_init).1 115 = .ok (.bipush 10, 2) := by decide +kernel
theorem d_Mo_init_117 : decode (am_Mof y_Mo_init).1 117 = .ok (.newarray .long, 2) := by decide +kernel
theorem d_Mo_init_119 : decode (am_Mof y_Mo_init).1 119 = .ok (.putfield 54, 3) := by decide +kernel
theorem d_Mo_init_122 : decode (am_Mof y_Mo_init).1 122 = .ok (.aload_n 0, 1) := by decide +kernel
theorem d_Mo_init_123 : decode (am_Mof y_Mo_init).1 123 = .ok (.sipush 160, 3) := by decide +kernel
theorem d_Mo_init_126 : decode (am_Mof y_Mo_init).1 126 = .ok (.newarray .long, 2) := by decide +kernel
theorem d_Mo_init_128 : decode (am_Mof y_Mo_init).1 128 = .ok (.putfield 57, 3) := by decide +kernel
theorem d_Mo_init_131 : decode (am_Mof y_Mo_init).1 131 = .ok (.aload_n 0, 1) := by decide +kernel
theorem d_Mo_init_132 : decode (am_Mof y_Mo_init).1 132 = .ok (.bipush 60, 2) := by decide +kernel
theorem d_Mo_init_134 : decode (am_Mof y_Mo_init).1 134 = .ok (.newarray .int, 2) := by decide +kernel
theorem d_Mo_init_136 : decode (am_Mof y_Mo_init).1 136 = .ok (.putfield 60, 3) := by decide +kernel
theorem d_Mo_init_139 : decode (am_Mof y_Mo_init).1 139 = .ok (.aload_n 0, 1) := by decide +kernel
theorem d_Mo_init_140 : decode (am_Mof y_Mo_init).1 140 = .ok (.sipush 200, 3) := by decide +kernel
theorem d_Mo_init_143 : decode (am_Mof y_Mo_init).1 143 = .ok (.newarray .int, 2) := by decide +kernel
theorem d_Mo_init_145 : decode (am_Mof y_Mo_init).1 145 = .ok (.putfield 63, 3) := by decide +kernel
theorem d_Mo_init_148 : decode (am_Mof y_Mo_init).1 148 = .ok (.aload_n 0, 1) := by decide +kernel
theorem d_Mo_init_149 : decode (am_Mof y_Mo_init).1 149 = .ok (.bipush 30, 2) := by decide +kernel
theorem d_Mo_init_151 : decode (am_Mof y_Mo_init).1 151 = .ok (.newarray .long, 2) := by decide +kernel
theorem d_Mo_init_153 : decode (am_Mof y_Mo_init).1 153 = .ok (.putfield 66, 3) := by decide +kernel
theorem d_Mo_init_156 : decode (am_Mof y_Mo_init).1 156 = .ok (.aload_n 0, 1) := by decide +kernel
theorem d_Mo_init_157 : decode (am_Mof y_Mo_init).1 157 = .ok (.bipush 30, 2) := by decide +kernel
theorem d_Mo_init_159 : decode (am_Mof y_Mo_init).1 159 = .ok (.newarray .long, 2) := by decide +kernel
theorem d_Mo_init_161 : decode (am_Mof y_Mo_init).1 161 = .ok (.putfield 69, 3) := by decide +kernel
theorem d_Mo_init_164 : decode (am_Mof y_Mo_init).1 164 = .ok (.return_, 1) := by decide +kernel
theorem d_Mo_plant_0 : decode (am_Mof y_Mo_plant).1 0 = .ok (.aload_n 0, 1) := by decide +kernel
theorem d_Mo_plant_1 : decode (am_Mof y_Mo_plant).1 1 = .ok (.getfield 72, 3) := by decide +kernel
theorem d_Mo_plant_4 : decode (am_Mof y_Mo_plant).1 4 = .ok (.iconst 5, 1) := by decide +kernel
theorem d_Mo_plant_5 : decode (am_Mof y_Mo_plant).1 5 = .ok (.if_icmp .ne 5, 3) := by decide +kernel
theorem d_Mo_plant_8 : decode (am_Mof y_Mo_plant).1 8 = .ok (.iconst (-1), 1) := by decide +kernel
theorem d_Mo_plant_9 : decode (am_Mof y_Mo_plant).1 9 = .ok (.ireturn, 1) := by decide +kernel
theorem d_Mo_plant_10 : decode (am_Mof y_Mo_plant).1 10 = .ok (.aload_n 0, 1) := by decide +kernel
theorem d_Mo_plant_11 : decode (am_Mof y_Mo_plant).1 11 = .ok (.dup, 1) := by decide +kernel
theorem d_Mo_plant_12 : decode (am_Mof y_Mo_plant).1 12 = .ok (.getfield 72, 3) := by decide +kernel
theorem d_Mo_plant_15 : decode (am_Mof y_Mo_plant).1 15 = .ok (.iconst 1, 1) := by decide +kernel
theorem d_Mo_plant_16 : decode (am_Mof y_Mo_plant).1 16 = .ok (.iadd, 1) := by decide +kernel
theorem d_Mo_plant_17 : decode (am_Mof y_Mo_plant).1 17 = .ok (.putfield 72, 3) := by decide +kernel
theorem d_Mo_plant_20 : decode (am_Mof y_Mo_plant).1 20 = .ok (.aload_n 0, 1) := by decide +kernel
theorem d_Mo_plant_21 : decode (am_Mof y_Mo_plant).1 21 = .ok (.getfield 72, 3) := by decide +kernel
theorem d_Mo_plant_24 : decode (am_Mof y_Mo_plant).1 24 = .ok (.iconst 1, 1) := by decide +kernel
theorem d_Mo_plant_25 : decode (am_Mof y_Mo_plant).1 25 = .ok (.isub, 1) := by decide +kernel
theorem d_Mo_plant_26 : decode (am_Mof y_Mo_plant).1 26 = .ok (.ireturn, 1) := by decide +kernel
theorem d_Mo_share_0 : decode (am_Mof y_Mo_share).1 0 = .ok (.aload_n 0, 1) := by decide +kernel
theorem d_Mo_share_1 : decode (am_Mof y_Mo_share).1 1 = .ok (.iload_n 1, 1) := by decide +kernel
theorem d_Mo_share_2 : decode (am_Mof y_Mo_share).1 2 = .ok (.invokevirtual 86, 3) := by decide +kernel
theorem d_Mo_share_5 : decode (am_Mof y_Mo_share).1 5 = .ok (.ifCond .eq 20, 3) := by decide +kernel
theorem d_Mo_share_8 : decode (am_Mof y_Mo_share).1 8 = .ok (.aload_n 0, 1) := by decide +kernel
theorem d_Mo_share_9 : decode (am_Mof y_Mo_share).1 9 = .ok (.iload_n 2, 1) := by decide +kernel
theorem d_Mo_share_10 : decode (am_Mof y_Mo_share).1 10 = .ok (.invokevirtual 86, 3) := by decide +kernel
theorem d_Mo_share_13 : decode (am_Mof y_Mo_share).1 13 = .ok (.ifCond .eq 12, 3) := by decide +kernel
theorem d_Mo_share_16 : decode (am_Mof y_Mo_share).1 16 = .ok (.lload_n 3, 1) := by decide +kernel
theorem d_Mo_share_17 : decode (am_Mof y_Mo_share).1 17 = .ok (.lload 5, 2) := by decide +kernel
theorem d_Mo_share_19 : decode (am_Mof y_Mo_share).1 19 = .ok (.invokestatic 90, 3) := by decide +kernel
theorem d_Mo_share_22 : decode (am_Mof y_Mo_share).1 22 = .ok (.ifCond .ne 5, 3) := by decide +kernel
theorem d_Mo_share_25 : decode (am_Mof y_Mo_share).1 25 = .ok (.iconst 0, 1) := by decide +kernel
theorem d_Mo_share_26 : decode (am_Mof y_Mo_share).1 26 = .ok (.ireturn, 1) := by decide +kernel
theorem d_Mo_share_27 : decode (am_Mof y_Mo_share).1 27 = .ok (.iconst 0, 1) := by decide +kernel
theorem d_Mo_share_28 : decode (am_Mof y_Mo_share).1 28 = .ok (.istore 7, 2) := by decide +kernel
theorem d_Mo_share_30 : decode (am_Mof y_Mo_share).1 30 = .ok (.iconst 0, 1) := by decide +kernel
theorem d_Mo_share_31 : decode (am_Mof y_Mo_share).1 31 = .ok (.istore 8, 2) := by decide +kernel
theorem d_Mo_share_33 : decode (am_Mof y_Mo_share).1 33 = .ok (.iload 8, 2) := by decide +kernel
theorem d_Mo_share_35 : decode (am_Mof y_Mo_share).1 35 = .ok (.iconst 5, 1) := by decide +kernel
theorem d_Mo_share_36 : decode (am_Mof y_Mo_share).1 36 = .ok (.if_icmp .ge 35, 3) := by decide +kernel
theorem d_Mo_share_39 : decode (am_Mof y_Mo_share).1 39 = .ok (.iload 7, 2) := by decide +kernel
theorem d_Mo_share_41 : decode (am_Mof y_Mo_share).1 41 = .ok (.iload 8, 2) := by decide +kernel
theorem d_Mo_share_43 : decode (am_Mof y_Mo_share).1 43 = .ok (.iload_n 2, 1) := by decide +kernel
theorem d_Mo_share_44 : decode (am_Mof y_Mo_share).1 44 = .ok (.if_icmp .ne 7, 3) := by decide +kernel
theorem d_Mo_share_47 : decode (am_Mof y_Mo_share).1 47 = .ok (.iconst 0, 1) := by decide +kernel
theorem d_Mo_share_48 : decode (am_Mof y_Mo_share).1 48 = .ok (.goto 14, 3) := by decide +kernel
theorem d_Mo_share_51 : decode (am_Mof y_Mo_share).1 51 = .ok (.aload_n 0, 1) := by decide +kernel
theorem d_Mo_share_52 : decode (am_Mof y_Mo_share).1 52 = .ok (.getfield 7, 3) := by decide +kernel
theorem d_Mo_share_55 : decode (am_Mof y_Mo_share).1 55 = .ok (.iconst 5, 1) := by decide +kernel
theorem d_Mo_share_56 : decode (am_Mof y_Mo_share).1 56 = .ok (.iload_n 1, 1) := by decide +kernel
theorem d_Mo_share_57 : decode (am_Mof y_Mo_share).1 57 = .ok (.imul, 1) := by decide +kernel
theorem d_Mo_share_58 : decode (am_Mof y_Mo_share).1 58 = .ok (.iload 8, 2) := by decide +kernel
theorem d_Mo_share_60 : decode (am_Mof y_Mo_share).1 60 = .ok (.iadd, 1) := by decide +kernel
theorem d_Mo_share_61 : decode (am_Mof y_Mo_share).1 61 = .ok (.iaload, 1) := by decide +kernel
theorem d_Mo_share_62 : decode (am_Mof y_Mo_share).1 62 = .ok (.iadd, 1) := by decide +kernel
theorem d_Mo_share_63 : decode (am_Mof y_Mo_share).1 63 = .ok (.istore 7, 2) := by decide +kernel
theorem d_Mo_share_65 : decode (am_Mof y_Mo_share).1 65 = .ok (.iinc 8 1, 3) := by decide +kernel
theorem d_Mo_share_68 : decode (am_Mof y_Mo_share).1 68 = .ok (.goto (-35), 3) := by decide +kernel
theorem d_Mo_share_71 : decode (am_Mof y_Mo_share).1 71 = .ok (.ldc2_w 80, 3) := by decide +kernel
theorem d_Mo_share_74 : decode (am_Mof y_Mo_share).1 74 = .ok (.lload 5, 2) := by decide +kernel
theorem d_Mo_share_76 : decode (am_Mof y_Mo_share).1 76 = .ok (.ldiv, 1) := by decide +kernel
theorem d_Mo_share_77 : decode (am_Mof y_Mo_share).1 77 = .ok (.lload_n 3, 1) := by decide +kernel
theorem d_Mo_share_78 : decode (am_Mof y_Mo_share).1 78 = .ok (.lmul, 1) := by decide +kernel
theorem d_Mo_share_79 : decode (am_Mof y_Mo_share).1 79 = .ok (.l2i, 1) := by decide +kernel
theorem d_Mo_share_80 : decode (am_Mof y_Mo_share).1 80 = .ok (.istore 8, 2) := by decide +kernel
theorem d_Mo_share_82 : decode (am_Mof y_Mo_share).1 82 = .ok (.iload 7, 2) := by decide +kernel
theorem d_Mo_share_84 : decode (am_Mof y_Mo_share).1 84 = .ok (.iload 8, 2) := by decide +kernel
theorem d_Mo_share_86 : decode (am_Mof y_Mo_share).1 86 = .ok (.iadd, 1) := by decide +kernel
theorem d_Mo_share_87 : decode (am_Mof y_Mo_share).1 87 = .ok (.bipush 10, 2) := by decide +kernel
theorem d_Mo_share_89 : decode (am_Mof y_Mo_share).1 89 = .ok (.if_icmp .le 5, 3) := by decide +kernel
theorem d_Mo_share_92 : decode (am_Mof y_Mo_share).1 92 = .ok (.iconst 0, 1) := by decide +kernel
theorem d_Mo_share_93 : decode (am_Mof y_Mo_share).1 93 = .ok (.ireturn, 1) := by decide +kernel
theorem d_Mo_share_94 : decode (am_Mof y_Mo_share).1 94 = .ok (.aload_n 0, 1) := by decide +kernel
theorem d_Mo_share_95 : decode (am_Mof y_Mo_share).1 95 = .ok (.getfield 7, 3) := by decide +kernel
theorem d_Mo_share_98 : decode (am_Mof y_Mo_share).1 98 = .ok (.iconst 5, 1) := by decide +kernel
theorem d_Mo_share_99 : decode (am_Mof y_Mo_share).1 99 = .ok (.iload_n 1, 1) := by decide +kernel
theorem d_Mo_share_100 : decode (am_Mof y_Mo_share).1 100 = .ok (.imul, 1) := by decide +kernel
theorem d_Mo_share_101 : decode (am_Mof y_Mo_share).1 101 = .ok (.iload_n 2, 1) := by decide +kernel
theorem d_Mo_share_102 : decode (am_Mof y_Mo_share).1 102 = .ok (.iadd, 1) := by decide +kernel
theorem d_Mo_share_103 : decode (am_Mof y_Mo_share).1 103 = .ok (.iload 8, 2) := by decide +kernel
theorem d_Mo_share_105 : decode (am_Mof y_Mo_share).1 105 = .ok (.iastore, 1) := by decide +kernel
theorem d_Mo_share_106 : decode (am_Mof y_Mo_share).1 106 = .ok (.iconst 1, 1) := by decide +kernel
theorem d_Mo_share_107 : decode (am_Mof y_Mo_share).1 107 = .ok (.ireturn, 1) := by decide +kernel
theorem d_Mo_isPlant_0 : decode (am_Mof y_Mo_isPlant).1 0 = .ok (.iload_n 1, 1) := by decide +kernel
theorem d_Mo_isPlant_1 : decode (am_Mof y_Mo_isPlant).1 1 = .ok (.ifCond .lt 15, 3) := by decide +kernel
theorem d_Mo_isPlant_4 : decode (am_Mof y_Mo_isPlant).1 4 = .ok (.iload_n 1, 1) := by decide +kernel
theorem d_Mo_isPlant_5 : decode (am_Mof y_Mo_isPlant).1 5 = .ok (.aload_n 0, 1) := by decide +kernel
theorem d_Mo_isPlant_6 : decode (am_Mof y_Mo_isPlant).1 6 = .ok (.getfield 72, 3) := by decide +kernel
theorem d_Mo_isPlant_9 : decode (am_Mof y_Mo_isPlant).1 9 = .ok (.if_icmp .ge 7, 3) := by decide +kernel
theorem d_Mo_isPlant_12 : decode (am_Mof y_Mo_isPlant).1 12 = .ok (.iconst 1, 1) := by decide +kernel
theorem d_Mo_isPlant_13 : decode (am_Mof y_Mo_isPlant).1 13 = .ok (.goto 4, 3) := by decide +kernel
theorem d_Mo_isPlant_16 : decode (am_Mof y_Mo_isPlant).1 16 = .ok (.iconst 0, 1) := by decide +kernel
theorem d_Mo_isPlant_17 : decode (am_Mof y_Mo_isPlant).1 17 = .ok (.ireturn, 1) := by decide +kernel
theorem d_Mo_isFraction_0 : decode (am_Mof y_Mo_isFraction).1 0 = .ok (.lload_n 2, 1) := by decide +kernel
theorem d_Mo_isFraction_1 : decode (am_Mof y_Mo_isFraction).1 1 = .ok (.lconst 1, 1) := by decide +kernel
theorem d_Mo_isFraction_2 : decode (am_Mof y_Mo_isFraction).1 2 = .ok (.lcmp, 1) := by decide +kernel
theorem d_Mo_isFraction_3 : decode (am_Mof y_Mo_isFraction).1 3 = .ok (.ifCond .eq 27, 3) := by decide +kernel
theorem d_Mo_isFraction_6 : decode (am_Mof y_Mo_isFraction).1 6 = .ok (.lload_n 2, 1) := by decide +kernel
theorem d_Mo_isFraction_7 : decode (am_Mof y_Mo_isFraction).1 7 = .ok (.ldc2_w 76, 3) := by decide +kernel
theorem d_Mo_isFraction_10 : decode (am_Mof y_Mo_isFraction).1 10 = .ok (.lcmp, 1) := by decide +kernel
theorem d_Mo_isFraction_11 : decode (am_Mof y_Mo_isFraction).1 11 = .ok (.ifCond .eq 19, 3) := by decide +kernel
theorem d_Mo_isFraction_14 : decode (am_Mof y_Mo_isFraction).1 14 = .ok (.lload_n 2, 1) := by decide +kernel
theorem d_Mo_isFraction_15 : decode (am_Mof y_Mo_isFraction).1 15 = .ok (.ldc2_w 78, 3) := by decide +kernel
theorem d_Mo_isFraction_18 : decode (am_Mof y_Mo_isFraction).1 18 = .ok (.lcmp, 1) := by decide +kernel
theorem d_Mo_isFraction_19 : decode (am_Mof y_Mo_isFraction).1 19 = .ok (.ifCond .eq 11, 3) := by decide +kernel
theorem d_Mo_isFraction_22 : decode (am_Mof y_Mo_isFraction).1 22 = .ok (.lload_n 2, 1) := by decide +kernel
theorem d_Mo_isFraction_23 : decode (am_Mof y_Mo_isFraction).1 23 = .ok (.ldc2_w 80, 3) := by decide +kernel
theorem d_Mo_isFraction_26 : decode (am_Mof y_Mo_isFraction).1 26 = .ok (.lcmp, 1) := by decide +kernel
theorem d_Mo_isFraction_27 : decode (am_Mof y_Mo_isFraction).1 27 = .ok (.ifCond .ne 16, 3) := by decide +kernel
theorem d_Mo_isFraction_30 : decode (am_Mof y_Mo_isFraction).1 30 = .ok (.lload_n 0, 1) := by decide +kernel
theorem d_Mo_isFraction_31 : decode (am_Mof y_Mo_isFraction).1 31 = .ok (.lconst 0, 1) := by decide +kernel
theorem d_Mo_isFraction_32 : decode (am_Mof y_Mo_isFraction).1 32 = .ok (.lload_n 2, 1) := by decide +kernel
theorem d_Mo_isFraction_33 : decode (am_Mof y_Mo_isFraction).1 33 = .ok (.invokestatic 82, 3) := by decide +kernel
theorem d_Mo_isFraction_36 : decode (am_Mof y_Mo_isFraction).1 36 = .ok (.ifCond .eq 7, 3) := by decide +kernel
theorem d_Mo_isFraction_39 : decode (am_Mof y_Mo_isFraction).1 39 = .ok (.iconst 1, 1) := by decide +kernel
theorem d_Mo_isFraction_40 : decode (am_Mof y_Mo_isFraction).1 40 = .ok (.goto 4, 3) := by decide +kernel
theorem d_Mo_isFraction_43 : decode (am_Mof y_Mo_isFraction).1 43 = .ok (.iconst 0, 1) := by decide +kernel
theorem d_Mo_isFraction_44 : decode (am_Mof y_Mo_isFraction).1 44 = .ok (.ireturn, 1) := by decide +kernel
theorem d_Mo_isIn_0 : decode (am_Mof y_Mo_isIn).1 0 = .ok (.lload_n 0, 1) := by decide +kernel
theorem d_Mo_isIn_1 : decode (am_Mof y_Mo_isIn).1 1 = .ok (.lload_n 2, 1) := by decide +kernel
theorem d_Mo_isIn_2 : decode (am_Mof y_Mo_isIn).1 2 = .ok (.lcmp, 1) := by decide +kernel
theorem d_Mo_isIn_3 : decode (am_Mof y_Mo_isIn).1 3 = .ok (.ifCond .lt 14, 3) := by decide +kernel
theorem d_Mo_isIn_6 : decode (am_Mof y_Mo_isIn).1 6 = .ok (.lload_n 0, 1) := by decide +kernel
theorem d_Mo_isIn_7 : decode (am_Mof y_Mo_isIn).1 7 = .ok (.lload 4, 2) := by decide +kernel
theorem d_Mo_isIn_9 : decode (am_Mof y_Mo_isIn).1 9 = .ok (.lcmp, 1) := by decide +kernel
theorem d_Mo_isIn_10 : decode (am_Mof y_Mo_isIn).1 10 = .ok (.ifCond .gt 7, 3) := by decide +kernel
theorem d_Mo_isIn_13 : decode (am_Mof y_Mo_isIn).1 13 = .ok (.iconst 1, 1) := by decide +kernel
theorem d_Mo_isIn_14 : decode (am_Mof y_Mo_isIn).1 14 = .ok (.goto 4, 3) := by decide +kernel
theorem d_Mo_isIn_17 : decode (am_Mof y_Mo_isIn).1 17 = .ok (.iconst 0, 1) := by decide +kernel
theorem d_Mo_isIn_18 : decode (am_Mof y_Mo_isIn).1 18 = .ok (.ireturn, 1) := by decide +kernel
theorem d_Mo_point_0 : decode (am_Mof y_Mo_point).1 0 = .ok (.aload_n 0, 1) := by decide +kernel
theorem d_Mo_point_1 : decode (am_Mof y_Mo_point).1 1 = .ok (.iload_n 1, 1) := by decide +kernel
theorem d_Mo_point_2 : decode (am_Mof y_Mo_point).1 2 = .ok (.invokevirtual 86, 3) := by decide +kernel
theorem d_Mo_point_5 : decode (am_Mof y_Mo_point).1 5 = .ok (.ifCond .eq 23, 3) := by decide +kernel
theorem d_Mo_point_8 : decode (am_Mof y_Mo_point).1 8 = .ok (.iload_n 2, 1) := by decide +kernel
theorem d_Mo_point_9 : decode (am_Mof y_Mo_point).1 9 = .ok (.invokestatic 94, 3) := by decide +kernel
theorem d_Mo_point_12 : decode (am_Mof y_Mo_point).1 12 = .ok (.ifCond .eq 16, 3) := by decide +kernel
theorem d_Mo_point_15 : decode (am_Mof y_Mo_point).1 15 = .ok (.aload_n 0, 1) := by decide +kernel
theorem d_Mo_point_16 : decode (am_Mof y_Mo_point).1 16 = .ok (.getfield 13, 3) := by decide +kernel
theorem d_Mo_point_19 : decode (am_Mof y_Mo_point).1 19 = .ok (.iconst 4, 1) := by decide +kernel
theorem d_Mo_point_20 : decode (am_Mof y_Mo_point).1 20 = .ok (.iload_n 1, 1) := by decide +kernel
theorem d_Mo_point_21 : decode (am_Mof y_Mo_point).1 21 = .ok (.imul, 1) := by decide +kernel
theorem d_Mo_point_22 : decode (am_Mof y_Mo_point).1 22 = .ok (.iload_n 2, 1) := by decide +kernel
theorem d_Mo_point_23 : decode (am_Mof y_Mo_point).1 23 = .ok (.iadd, 1) := by decide +kernel
theorem d_Mo_point_24 : decode (am_Mof y_Mo_point).1 24 = .ok (.baload, 1) := by decide +kernel
theorem d_Mo_point_25 : decode (am_Mof y_Mo_point).1 25 = .ok (.ifCond .eq 5, 3) := by decide +kernel
theorem d_Mo_point_28 : decode (am_Mof y_Mo_point).1 28 = .ok (.iconst 0, 1) := by decide +kernel
theorem d_Mo_point_29 : decode (am_Mof y_Mo_point).1 29 = .ok (.ireturn, 1) := by decide +kernel
theorem d_Mo_point_30 : decode (am_Mof y_Mo_point).1 30 = .ok (.aload_n 0, 1) := by decide +kernel
theorem d_Mo_point_31 : decode (am_Mof y_Mo_point).1 31 = .ok (.getfield 13, 3) := by decide +kernel
theorem d_Mo_point_34 : decode (am_Mof y_Mo_point).1 34 = .ok (.iconst 4, 1) := by decide +kernel
theorem d_Mo_point_35 : decode (am_Mof y_Mo_point).1 35 = .ok (.iload_n 1, 1) := by decide +kernel
theorem d_Mo_point_36 : decode (am_Mof y_Mo_point).1 36 = .ok (.imul, 1) := by decide +kernel
theorem d_Mo_point_37 : decode (am_Mof y_Mo_point).1 37 = .ok (.iload_n 2, 1) := by decide +kernel
theorem d_Mo_point_38 : decode (am_Mof y_Mo_point).1 38 = .ok (.iadd, 1) := by decide +kernel
theorem d_Mo_point_39 : decode (am_Mof y_Mo_point).1 39 = .ok (.iconst 1, 1) := by decide +kernel
theorem d_Mo_point_40 : decode (am_Mof y_Mo_point).1 40 = .ok (.bastore, 1) := by decide +kernel
theorem d_Mo_point_41 : decode (am_Mof y_Mo_point).1 41 = .ok (.iconst 1, 1) := by decide +kernel
theorem d_Mo_point_42 : decode (am_Mof y_Mo_point).1 42 = .ok (.ireturn, 1) := by decide +kernel
theorem d_Mo_isKind_0 : decode (am_Mof y_Mo_isKind).1 0 = .ok (.iload_n 0, 1) := by decide +kernel
theorem d_Mo_isKind_1 : decode (am_Mof y_Mo_isKind).1 1 = .ok (.ifCond .lt 12, 3) := by decide +kernel
theorem d_Mo_isKind_4 : decode (am_Mof y_Mo_isKind).1 4 = .ok (.iload_n 0, 1) := by decide +kernel
theorem d_Mo_isKind_5 : decode (am_Mof y_Mo_isKind).1 5 = .ok (.iconst 4, 1) := by decide +kernel
theorem d_Mo_isKind_6 : decode (am_Mof y_Mo_isKind).1 6 = .ok (.if_icmp .ge 7, 3) := by decide +kernel
theorem d_Mo_isKind_9 : decode (am_Mof y_Mo_isKind).1 9 = .ok (.iconst 1, 1) := by decide +kernel
theorem d_Mo_isKind_10 : decode (am_Mof y_Mo_isKind).1 10 = .ok (.goto 4, 3) := by decide +kernel
theorem d_Mo_isKind_13 : decode (am_Mof y_Mo_isKind).1 13 = .ok (.iconst 0, 1) := by decide +kernel
theorem d_Mo_isKind_14 : decode (am_Mof y_Mo_isKind).1 14 = .ok (.ireturn, 1) := by decide +kernel
theorem d_Mo_average_0 : decode (am_Mof y_Mo_average).1 0 = .ok (.aload_n 0, 1) := by decide +kernel
theorem d_Mo_average_1 : decode (am_Mof y_Mo_average).1 1 = .ok (.iload_n 1, 1) := by decide +kernel
theorem d_Mo_average_2 : decode (am_Mof y_Mo_average).1 2 = .ok (.invokevirtual 86, 3) := by decide +kernel
theorem d_Mo_average_5 : decode (am_Mof y_Mo_average).1 5 = .ok (.ifCond .eq 12, 3) := by decide +kernel
theorem d_Mo_average_8 : decode (am_Mof y_Mo_average).1 8 = .ok (.lload_n 2, 1) := by decide +kernel
theorem d_Mo_average_9 : decode (am_Mof y_Mo_average).1 9 = .ok (.lload 4, 2) := by decide +kernel
theorem d_Mo_average_11 : decode (am_Mof y_Mo_average).1 11 = .ok (.invokestatic 90, 3) := by decide +kernel
theorem d_Mo_average_14 : decode (am_Mof y_Mo_average).1 14 = .ok (.ifCond .ne 5, 3) := by decide +kernel
theorem d_Mo_average_17 : decode (am_Mof y_Mo_average).1 17 = .ok (.iconst 0, 1) := by decide +kernel
theorem d_Mo_average_18 : decode (am_Mof y_Mo_average).1 18 = .ok (.ireturn, 1) := by decide +kernel
theorem d_Mo_average_19 : decode (am_Mof y_Mo_average).1 19 = .ok (.aload_n 0, 1) := by decide +kernel
theorem d_Mo_average_20 : decode (am_Mof y_Mo_average).1 20 = .ok (.getfield 17, 3) := by decide +kernel
theorem d_Mo_average_23 : decode (am_Mof y_Mo_average).1 23 = .ok (.iload_n 1, 1) := by decide +kernel
theorem d_Mo_average_24 : decode (am_Mof y_Mo_average).1 24 = .ok (.iconst 1, 1) := by decide +kernel
theorem d_Mo_average_25 : decode (am_Mof y_Mo_average).1 25 = .ok (.bastore, 1) := by decide +kernel
theorem d_Mo_average_26 : decode (am_Mof y_Mo_average).1 26 = .ok (.aload_n 0, 1) := by decide +kernel
theorem d_Mo_average_27 : decode (am_Mof y_Mo_average).1 27 = .ok (.getfield 20, 3) := by decide +kernel
theorem d_Mo_average_30 : decode (am_Mof y_Mo_average).1 30 = .ok (.iload_n 1, 1) := by decide +kernel
theorem d_Mo_average_31 : decode (am_Mof y_Mo_average).1 31 = .ok (.ldc2_w 80, 3) := by decide +kernel
theorem d_Mo_average_34 : decode (am_Mof y_Mo_average).1 34 = .ok (.lload 4, 2) := by decide +kernel
theorem d_Mo_average_36 : decode (am_Mof y_Mo_average).1 36 = .ok (.ldiv, 1) := by decide +kernel
theorem d_Mo_average_37 : decode (am_Mof y_Mo_average).1 37 = .ok (.lload_n 2, 1) := by decide +kernel
theorem d_Mo_average_38 : decode (am_Mof y_Mo_average).1 38 = .ok (.lmul, 1) := by decide +kernel
theorem d_Mo_average_39 : decode (am_Mof y_Mo_average).1 39 = .ok (.l2i, 1) := by decide +kernel
theorem d_Mo_average_40 : decode (am_Mof y_Mo_average).1 40 = .ok (.iastore, 1) := by decide +kernel
theorem d_Mo_average_41 : decode (am_Mof y_Mo_average).1 41 = .ok (.iconst 1, 1) := by decide +kernel
theorem d_Mo_average_42 : decode (am_Mof y_Mo_average).1 42 = .ok (.ireturn, 1) := by decide +kernel
theorem d_Mo_feed_0 : decode (am_Mof y_Mo_feed).1 0 = .ok (.aload_n 0, 1) := by decide +kernel
theorem d_Mo_feed_1 : decode (am_Mof y_Mo_feed).1 1 = .ok (.getfield 97, 3) := by decide +kernel
theorem d_Mo_feed_4 : decode (am_Mof y_Mo_feed).1 4 = .ok (.bipush 60, 2) := by decide +kernel
theorem d_Mo_feed_6 : decode (am_Mof y_Mo_feed).1 6 = .ok (.if_icmp .eq 45, 3) := by decide +kernel
theorem d_Mo_feed_9 : decode (am_Mof y_Mo_feed).1 9 = .ok (.aload_n 0, 1) := by decide +kernel
theorem d_Mo_feed_10 : decode (am_Mof y_Mo_feed).1 10 = .ok (.iload_n 1, 1) := by decide +kernel
theorem d_Mo_feed_11 : decode (am_Mof y_Mo_feed).1 11 = .ok (.invokevirtual 86, 3) := by decide +kernel
theorem d_Mo_feed_14 : decode (am_Mof y_Mo_feed).1 14 = .ok (.ifCond .eq 37, 3) := by decide +kernel
theorem d_Mo_feed_17 : decode (am_Mof y_Mo_feed).1 17 = .ok (.iload_n 2, 1) := by decide +kernel
theorem d_Mo_feed_18 : decode (am_Mof y_Mo_feed).1 18 = .ok (.invokestatic 94, 3) := by decide +kernel
theorem d_Mo_feed_21 : decode (am_Mof y_Mo_feed).1 21 = .ok (.ifCond .eq 30, 3) := by decide +kernel
theorem d_Mo_feed_24 : decode (am_Mof y_Mo_feed).1 24 = .ok (.lload_n 3, 1) := by decide +kernel
theorem d_Mo_feed_25 : decode (am_Mof y_Mo_feed).1 25 = .ok (.lconst 0, 1) := by decide +kernel
theorem d_Mo_feed_26 : decode (am_Mof y_Mo_feed).1 26 = .ok (.ldc2_w 100, 3) := by decide +kernel
theorem d_Mo_feed_29 : decode (am_Mof y_Mo_feed).1 29 = .ok (.invokestatic 82, 3) := by decide +kernel
theorem d_Mo_feed_32 : decode (am_Mof y_Mo_feed).1 32 = .ok (.ifCond .eq 19, 3) := by decide +kernel
theorem d_Mo_feed_35 : decode (am_Mof y_Mo_feed).1 35 = .ok (.iload 5, 2) := by decide +kernel
theorem d_Mo_feed_37 : decode (am_Mof y_Mo_feed).1 37 = .ok (.invokestatic 102, 3) := by decide +kernel
theorem d_Mo_feed_40 : decode (am_Mof y_Mo_feed).1 40 = .ok (.ifCond .eq 11, 3) := by decide +kernel
theorem d_Mo_feed_43 : decode (am_Mof y_Mo_feed).1 43 = .ok (.iload 6, 2) := by decide +kernel
theorem d_Mo_feed_45 : decode (am_Mof y_Mo_feed).1 45 = .ok (.invokestatic 105, 3) := by decide +kernel
theorem d_Mo_feed_48 : decode (am_Mof y_Mo_feed).1 48 = .ok (.ifCond .ne 5, 3) := by decide +kernel
theorem d_Mo_feed_51 : decode (am_Mof y_Mo_feed).1 51 = .ok (.iconst 0, 1) := by decide +kernel
theorem d_Mo_feed_52 : decode (am_Mof y_Mo_feed).1 52 = .ok (.ireturn, 1) := by decide +kernel
theorem d_Mo_feed_53 : decode (am_Mof y_Mo_feed).1 53 = .ok (.aload_n 0, 1) := by decide +kernel
theorem d_Mo_feed_54 : decode (am_Mof y_Mo_feed).1 54 = .ok (.getfield 23, 3) := by decide +kernel
theorem d_Mo_feed_57 : decode (am_Mof y_Mo_feed).1 57 = .ok (.aload_n 0, 1) := by decide +kernel
theorem d_Mo_feed_58 : decode (am_Mof y_Mo_feed).1 58 = .ok (.getfield 97, 3) := by decide +kernel
theorem d_Mo_feed_61 : decode (am_Mof y_Mo_feed).1 61 = .ok (.iload_n 1, 1) := by decide +kernel
theorem d_Mo_feed_62 : decode (am_Mof y_Mo_feed).1 62 = .ok (.iastore, 1) := by decide +kernel
theorem d_Mo_feed_63 : decode (am_Mof y_Mo_feed).1 63 = .ok (.aload_n 0, 1) := by decide +kernel
theorem d_Mo_feed_64 : decode (am_Mof y_Mo_feed).1 64 = .ok (.getfield 26, 3) := by decide +kernel
theorem d_Mo_feed_67 : decode (am_Mof y_Mo_feed).1 67 = .ok (.aload_n 0, 1) := by decide +kernel
theorem d_Mo_feed_68 : decode (am_Mof y_Mo_feed).1 68 = .ok (.getfield 97, 3) := by decide +kernel
theorem d_Mo_feed_71 : decode (am_Mof y_Mo_feed).1 71 = .ok (.iload_n 2, 1) := by decide +kernel
theorem d_Mo_feed_72 : decode (am_Mof y_Mo_feed).1 72 = .ok (.iastore, 1) := by decide +kernel
theorem d_Mo_feed_73 : decode (am_Mof y_Mo_feed).1 73 = .ok (.aload_n 0, 1) := by decide +kernel
theorem d_Mo_feed_74 : decode (am_Mof y_Mo_feed).1 74 = .ok (.getfield 35, 3) := by decide +kernel
theorem d_Mo_feed_77 : decode (am_Mof y_Mo_feed).1 77 = .ok (.aload_n 0, 1) := by decide +kernel
theorem d_Mo_feed_78 : decode (am_Mof y_Mo_feed).1 78 = .ok (.getfield 97, 3) := by decide +kernel
theorem d_Mo_feed_81 : decode (am_Mof y_Mo_feed).1 81 = .ok (.lload_n 3, 1) := by decide +kernel
theorem d_Mo_feed_82 : decode (am_Mof y_Mo_feed).1 82 = .ok (.lastore, 1) := by decide +kernel
theorem d_Mo_feed_83 : decode (am_Mof y_Mo_feed).1 83 = .ok (.aload_n 0, 1) := by decide +kernel
theorem d_Mo_feed_84 : decode (am_Mof y_Mo_feed).1 84 = .ok (.getfield 29, 3) := by decide +kernel
theorem d_Mo_feed_87 : decode (am_Mof y_Mo_feed).1 87 = .ok (.aload_n 0, 1) := by decide +kernel
theorem d_Mo_feed_88 : decode (am_Mof y_Mo_feed).1 88 = .ok (.getfield 97, 3) := by decide +kernel
theorem d_Mo_feed_91 : decode (am_Mof y_Mo_feed).1 91 = .ok (.iload 5, 2) := by decide +kernel
theorem d_Mo_feed_93 : decode (am_Mof y_Mo_feed).1 93 = .ok (.iastore, 1) := by decide +kernel
theorem d_Mo_feed_94 : decode (am_Mof y_Mo_feed).1 94 = .ok (.aload_n 0, 1) := by decide +kernel
theorem d_Mo_feed_95 : decode (am_Mof y_Mo_feed).1 95 = .ok (.getfield 32, 3) := by decide +kernel
theorem d_Mo_feed_98 : decode (am_Mof y_Mo_feed).1 98 = .ok (.aload_n 0, 1) := by decide +kernel
theorem d_Mo_feed_99 : decode (am_Mof y_Mo_feed).1 99 = .ok (.getfield 97, 3) := by decide +kernel
theorem d_Mo_feed_102 : decode (am_Mof y_Mo_feed).1 102 = .ok (.iload 6, 2) := by decide +kernel
theorem d_Mo_feed_104 : decode (am_Mof y_Mo_feed).1 104 = .ok (.iastore, 1) := by decide +kernel
theorem d_Mo_feed_105 : decode (am_Mof y_Mo_feed).1 105 = .ok (.aload_n 0, 1) := by decide +kernel
theorem d_Mo_feed_106 : decode (am_Mof y_Mo_feed).1 106 = .ok (.dup, 1) := by decide +kernel
theorem d_Mo_feed_107 : decode (am_Mof y_Mo_feed).1 107 = .ok (.getfield 97, 3) := by decide +kernel
theorem d_Mo_feed_110 : decode (am_Mof y_Mo_feed).1 110 = .ok (.iconst 1, 1) := by decide +kernel
theorem d_Mo_feed_111 : decode (am_Mof y_Mo_feed).1 111 = .ok (.iadd, 1) := by decide +kernel
theorem d_Mo_feed_112 : decode (am_Mof y_Mo_feed).1 112 = .ok (.putfield 97, 3) := by decide +kernel
theorem d_Mo_feed_115 : decode (am_Mof y_Mo_feed).1 115 = .ok (.iconst 1, 1) := by decide +kernel
theorem d_Mo_feed_116 : decode (am_Mof y_Mo_feed).1 116 = .ok (.ireturn, 1) := by decide +kernel
theorem d_Mo_isYear_0 : decode (am_Mof y_Mo_isYear).1 0 = .ok (.iload_n 0, 1) := by decide +kernel
theorem d_Mo_isYear_1 : decode (am_Mof y_Mo_isYear).1 1 = .ok (.ifCond .lt 13, 3) := by decide +kernel
theorem d_Mo_isYear_4 : decode (am_Mof y_Mo_isYear).1 4 = .ok (.iload_n 0, 1) := by decide +kernel
theorem d_Mo_isYear_5 : decode (am_Mof y_Mo_isYear).1 5 = .ok (.bipush 10, 2) := by decide +kernel
theorem d_Mo_isYear_7 : decode (am_Mof y_Mo_isYear).1 7 = .ok (.if_icmp .ge 7, 3) := by decide +kernel
theorem d_Mo_isYear_10 : decode (am_Mof y_Mo_isYear).1 10 = .ok (.iconst 1, 1) := by decide +kernel
theorem d_Mo_isYear_11 : decode (am_Mof y_Mo_isYear).1 11 = .ok (.goto 4, 3) := by decide +kernel
theorem d_Mo_isYear_14 : decode (am_Mof y_Mo_isYear).1 14 = .ok (.iconst 0, 1) := by decide +kernel
theorem d_Mo_isYear_15 : decode (am_Mof y_Mo_isYear).1 15 = .ok (.ireturn, 1) := by decide +kernel
theorem d_Mo_isCountry_0 : decode (am_Mof y_Mo_isCountry).1 0 = .ok (.iload_n 0, 1) := by decide +kernel
theorem d_Mo_isCountry_1 : decode (am_Mof y_Mo_isCountry).1 1 = .ok (.ifCond .lt 12, 3) := by decide +kernel
theorem d_Mo_isCountry_4 : decode (am_Mof y_Mo_isCountry).1 4 = .ok (.iload_n 0, 1) := by decide +kernel
theorem d_Mo_isCountry_5 : decode (am_Mof y_Mo_isCountry).1 5 = .ok (.iconst 4, 1) := by decide +kernel
theorem d_Mo_isCountry_6 : decode (am_Mof y_Mo_isCountry).1 6 = .ok (.if_icmp .ge 7, 3) := by decide +kernel
theorem d_Mo_isCountry_9 : decode (am_Mof y_Mo_isCountry).1 9 = .ok (.iconst 1, 1) := by decide +kernel
theorem d_Mo_isCountry_10 : decode (am_Mof y_Mo_isCountry).1 10 = .ok (.goto 4, 3) := by decide +kernel
theorem d_Mo_isCountry_13 : decode (am_Mof y_Mo_isCountry).1 13 = .ok (.iconst 0, 1) := by decide +kernel
theorem d_Mo_isCountry_14 : decode (am_Mof y_Mo_isCountry).1 14 = .ok (.ireturn, 1) := by decide +kernel
theorem d_Mo_metals_0 : decode (am_Mof y_Mo_metals).1 0 = .ok (.iload_n 1, 1) := by decide +kernel
theorem d_Mo_metals_1 : decode (am_Mof y_Mo_metals).1 1 = .ok (.invokestatic 102, 3) := by decide +kernel
theorem d_Mo_metals_4 : decode (am_Mof y_Mo_metals).1 4 = .ok (.ifCond .eq 14, 3) := by decide +kernel
theorem d_Mo_metals_7 : decode (am_Mof y_Mo_metals).1 7 = .ok (.lload_n 2, 1) := by decide +kernel
theorem d_Mo_metals_8 : decode (am_Mof y_Mo_metals).1 8 = .ok (.lconst 0, 1) := by decide +kernel
theorem d_Mo_metals_9 : decode (am_Mof y_Mo_metals).1 9 = .ok (.ldc2_w 100, 3) := by decide +kernel
theorem d_Mo_metals_12 : decode (am_Mof y_Mo_metals).1 12 = .ok (.invokestatic 82, 3) := by decide +kernel
theorem d_Mo_metals_15 : decode (am_Mof y_Mo_metals).1 15 = .ok (.ifCond .ne 5, 3) := by decide +kernel
theorem d_Mo_metals_18 : decode (am_Mof y_Mo_metals).1 18 = .ok (.iconst 0, 1) := by decide +kernel
theorem d_Mo_metals_19 : decode (am_Mof y_Mo_metals).1 19 = .ok (.ireturn, 1) := by decide +kernel
theorem d_Mo_metals_20 : decode (am_Mof y_Mo_metals).1 20 = .ok (.aload_n 0, 1) := by decide +kernel
theorem d_Mo_metals_21 : decode (am_Mof y_Mo_metals).1 21 = .ok (.getfield 39, 3) := by decide +kernel
theorem d_Mo_metals_24 : decode (am_Mof y_Mo_metals).1 24 = .ok (.iload_n 1, 1) := by decide +kernel
theorem d_Mo_metals_25 : decode (am_Mof y_Mo_metals).1 25 = .ok (.lload_n 2, 1) := by decide +kernel
theorem d_Mo_metals_26 : decode (am_Mof y_Mo_metals).1 26 = .ok (.lastore, 1) := by decide +kernel
theorem d_Mo_metals_27 : decode (am_Mof y_Mo_metals).1 27 = .ok (.iconst 1, 1) := by decide +kernel
theorem d_Mo_metals_28 : decode (am_Mof y_Mo_metals).1 28 = .ok (.ireturn, 1) := by decide +kernel
theorem d_Mo_placed_0 : decode (am_Mof y_Mo_placed).1 0 = .ok (.iload_n 1, 1) := by decide +kernel
theorem d_Mo_placed_1 : decode (am_Mof y_Mo_placed).1 1 = .ok (.invokestatic 94, 3) := by decide +kernel
theorem d_Mo_placed_4 : decode (am_Mof y_Mo_placed).1 4 = .ok (.ifCond .eq 21, 3) := by decide +kernel
theorem d_Mo_placed_7 : decode (am_Mof y_Mo_placed).1 7 = .ok (.iload_n 2, 1) := by decide +kernel
theorem d_Mo_placed_8 : decode (am_Mof y_Mo_placed).1 8 = .ok (.invokestatic 102, 3) := by decide +kernel
theorem d_Mo_placed_11 : decode (am_Mof y_Mo_placed).1 11 = .ok (.ifCond .eq 14, 3) := by decide +kernel
theorem d_Mo_placed_14 : decode (am_Mof y_Mo_placed).1 14 = .ok (.lload_n 3, 1) := by decide +kernel
theorem d_Mo_placed_15 : decode (am_Mof y_Mo_placed).1 15 = .ok (.lconst 0, 1) := by decide +kernel
theorem d_Mo_placed_16 : decode (am_Mof y_Mo_placed).1 16 = .ok (.ldc2_w 108, 3) := by decide +kernel
theorem d_Mo_placed_19 : decode (am_Mof y_Mo_placed).1 19 = .ok (.invokestatic 82, 3) := by decide +kernel
theorem d_Mo_placed_22 : decode (am_Mof y_Mo_placed).1 22 = .ok (.ifCond .ne 5, 3) := by decide +kernel
theorem d_Mo_placed_25 : decode (am_Mof y_Mo_placed).1 25 = .ok (.iconst 0, 1) := by decide +kernel
theorem d_Mo_placed_26 : decode (am_Mof y_Mo_placed).1 26 = .ok (.ireturn, 1) := by decide +kernel
theorem d_Mo_placed_27 : decode (am_Mof y_Mo_placed).1 27 = .ok (.aload_n 0, 1) := by decide +kernel
theorem d_Mo_placed_28 : decode (am_Mof y_Mo_placed).1 28 = .ok (.getfield 42, 3) := by decide +kernel
theorem d_Mo_placed_31 : decode (am_Mof y_Mo_placed).1 31 = .ok (.bipush 10, 2) := by decide +kernel
theorem d_Mo_placed_33 : decode (am_Mof y_Mo_placed).1 33 = .ok (.iload_n 1, 1) := by decide +kernel
theorem d_Mo_placed_34 : decode (am_Mof y_Mo_placed).1 34 = .ok (.imul, 1) := by decide +kernel
theorem d_Mo_placed_35 : decode (am_Mof y_Mo_placed).1 35 = .ok (.iload_n 2, 1) := by decide +kernel
theorem d_Mo_placed_36 : decode (am_Mof y_Mo_placed).1 36 = .ok (.iadd, 1) := by decide +kernel
theorem d_Mo_placed_37 : decode (am_Mof y_Mo_placed).1 37 = .ok (.lload_n 3, 1) := by decide +kernel
theorem d_Mo_placed_38 : decode (am_Mof y_Mo_placed).1 38 = .ok (.lastore, 1) := by decide +kernel
theorem d_Mo_placed_39 : decode (am_Mof y_Mo_placed).1 39 = .ok (.iconst 1, 1) := by decide +kernel
theorem d_Mo_placed_40 : decode (am_Mof y_Mo_placed).1 40 = .ok (.ireturn, 1) := by decide +kernel
theorem d_Mo_solve_0 : decode (am_Mof y_Mo_solve).1 0 = .ok (.iconst 0, 1) := by decide +kernel
theorem d_Mo_solve_1 : decode (am_Mof y_Mo_solve).1 1 = .ok (.istore_n 1, 1) := by decide +kernel
theorem d_Mo_solve_2 : decode (am_Mof y_Mo_solve).1 2 = .ok (.iload_n 1, 1) := by decide +kernel
theorem d_Mo_solve_3 : decode (am_Mof y_Mo_solve).1 3 = .ok (.aload_n 0, 1) := by decide +kernel
theorem d_Mo_solve_4 : decode (am_Mof y_Mo_solve).1 4 = .ok (.getfield 72, 3) := by decide +kernel
theorem d_Mo_solve_7 : decode (am_Mof y_Mo_solve).1 7 = .ok (.if_icmp .ge 35, 3) := by decide +kernel
theorem d_Mo_solve_10 : decode (am_Mof y_Mo_solve).1 10 = .ok (.iconst 0, 1) := by decide +kernel
theorem d_Mo_solve_11 : decode (am_Mof y_Mo_solve).1 11 = .ok (.istore_n 2, 1) := by decide +kernel
theorem d_Mo_solve_12 : decode (am_Mof y_Mo_solve).1 12 = .ok (.iload_n 2, 1) := by decide +kernel
theorem d_Mo_solve_13 : decode (am_Mof y_Mo_solve).1 13 = .ok (.iconst 4, 1) := by decide +kernel
theorem d_Mo_solve_14 : decode (am_Mof y_Mo_solve).1 14 = .ok (.if_icmp .ge 22, 3) := by decide +kernel
theorem d_Mo_solve_17 : decode (am_Mof y_Mo_solve).1 17 = .ok (.aload_n 0, 1) := by decide +kernel
theorem d_Mo_solve_18 : decode (am_Mof y_Mo_solve).1 18 = .ok (.iload_n 1, 1) := by decide +kernel
theorem d_Mo_solve_19 : decode (am_Mof y_Mo_solve).1 19 = .ok (.iload_n 2, 1) := by decide +kernel
theorem d_Mo_solve_20 : decode (am_Mof y_Mo_solve).1 20 = .ok (.invokevirtual 130, 3) := by decide +kernel
theorem d_Mo_solve_23 : decode (am_Mof y_Mo_solve).1 23 = .ok (.ifCond .ne 7, 3) := by decide +kernel
theorem d_Mo_solve_26 : decode (am_Mof y_Mo_solve).1 26 = .ok (.iconst 1, 1) := by decide +kernel
theorem d_Mo_solve_27 : decode (am_Mof y_Mo_solve).1 27 = .ok (.iload_n 1, 1) := by decide +kernel
theorem d_Mo_solve_28 : decode (am_Mof y_Mo_solve).1 28 = .ok (.iadd, 1) := by decide +kernel
theorem d_Mo_solve_29 : decode (am_Mof y_Mo_solve).1 29 = .ok (.ireturn, 1) := by decide +kernel
theorem d_Mo_solve_30 : decode (am_Mof y_Mo_solve).1 30 = .ok (.iinc 2 1, 3) := by decide +kernel
theorem d_Mo_solve_33 : decode (am_Mof y_Mo_solve).1 33 = .ok (.goto (-21), 3) := by decide +kernel
theorem d_Mo_solve_36 : decode (am_Mof y_Mo_solve).1 36 = .ok (.iinc 1 1, 3) := by decide +kernel
theorem d_Mo_solve_39 : decode (am_Mof y_Mo_solve).1 39 = .ok (.goto (-37), 3) := by decide +kernel
theorem d_Mo_solve_42 : decode (am_Mof y_Mo_solve).1 42 = .ok (.iconst 0, 1) := by decide +kernel
theorem d_Mo_solve_43 : decode (am_Mof y_Mo_solve).1 43 = .ok (.istore_n 1, 1) := by decide +kernel
theorem d_Mo_solve_44 : decode (am_Mof y_Mo_solve).1 44 = .ok (.iload_n 1, 1) := by decide +kernel
theorem d_Mo_solve_45 : decode (am_Mof y_Mo_solve).1 45 = .ok (.iconst 4, 1) := by decide +kernel
theorem d_Mo_solve_46 : decode (am_Mof y_Mo_solve).1 46 = .ok (.if_icmp .ge 161, 3) := by decide +kernel
theorem d_Mo_solve_49 : decode (am_Mof y_Mo_solve).1 49 = .ok (.aload_n 0, 1) := by decide +kernel
theorem d_Mo_solve_50 : decode (am_Mof y_Mo_solve).1 50 = .ok (.iload_n 1, 1) := by decide +kernel
theorem d_Mo_solve_51 : decode (am_Mof y_Mo_solve).1 51 = .ok (.invokevirtual 134, 3) := by decide +kernel
theorem d_Mo_solve_54 : decode (am_Mof y_Mo_solve).1 54 = .ok (.aload_n 0, 1) := by decide +kernel
theorem d_Mo_solve_55 : decode (am_Mof y_Mo_solve).1 55 = .ok (.invokevirtual 138, 3) := by decide +kernel
theorem d_Mo_solve_58 : decode (am_Mof y_Mo_solve).1 58 = .ok (.iconst 0, 1) := by decide +kernel
theorem d_Mo_solve_59 : decode (am_Mof y_Mo_solve).1 59 = .ok (.istore_n 2, 1) := by decide +kernel
theorem d_Mo_solve_60 : decode (am_Mof y_Mo_solve).1 60 = .ok (.iload_n 2, 1) := by decide +kernel
theorem d_Mo_solve_61 : decode (am_Mof y_Mo_solve).1 61 = .ok (.aload_n 0, 1) := by decide +kernel
theorem d_Mo_solve_62 : decode (am_Mof y_Mo_solve).1 62 = .ok (.getfield 72, 3) := by decide +kernel
theorem d_Mo_solve_65 : decode (am_Mof y_Mo_solve).1 65 = .ok (.if_icmp .ge 136, 3) := by decide +kernel
theorem d_Mo_solve_68 : decode (am_Mof y_Mo_solve).1 68 = .ok (.aload_n 0, 1) := by decide +kernel
theorem d_Mo_solve_69 : decode (am_Mof y_Mo_solve).1 69 = .ok (.getfield 66, 3) := by decide +kernel
theorem d_Mo_solve_72 : decode (am_Mof y_Mo_solve).1 72 = .ok (.bipush 6, 2) := by decide +kernel
theorem d_Mo_solve_74 : decode (am_Mof y_Mo_solve).1 74 = .ok (.iload_n 2, 1) := by decide +kernel
theorem d_Mo_solve_75 : decode (am_Mof y_Mo_solve).1 75 = .ok (.imul, 1) := by decide +kernel
theorem d_Mo_solve_76 : decode (am_Mof y_Mo_solve).1 76 = .ok (.iconst 5, 1) := by decide +kernel
theorem d_Mo_solve_77 : decode (am_Mof y_Mo_solve).1 77 = .ok (.iadd, 1) := by decide +kernel
theorem d_Mo_solve_78 : decode (am_Mof y_Mo_solve).1 78 = .ok (.laload, 1) := by decide +kernel
theorem d_Mo_solve_79 : decode (am_Mof y_Mo_solve).1 79 = .ok (.aload_n 0, 1) := by decide +kernel
theorem d_Mo_solve_80 : decode (am_Mof y_Mo_solve).1 80 = .ok (.getfield 69, 3) := by decide +kernel
theorem d_Mo_solve_83 : decode (am_Mof y_Mo_solve).1 83 = .ok (.bipush 6, 2) := by decide +kernel
theorem d_Mo_solve_85 : decode (am_Mof y_Mo_solve).1 85 = .ok (.iload_n 2, 1) := by decide +kernel
theorem d_Mo_solve_86 : decode (am_Mof y_Mo_solve).1 86 = .ok (.imul, 1) := by decide +kernel
theorem d_Mo_solve_87 : decode (am_Mof y_Mo_solve).1 87 = .ok (.iload_n 2, 1) := by decide +kernel
theorem d_Mo_solve_88 : decode (am_Mof y_Mo_solve).1 88 = .ok (.iadd, 1) := by decide +kernel
theorem d_Mo_solve_89 : decode (am_Mof y_Mo_solve).1 89 = .ok (.laload, 1) := by decide +kernel
theorem d_Mo_solve_90 : decode (am_Mof y_Mo_solve).1 90 = .ok (.lmul, 1) := by decide +kernel
theorem d_Mo_solve_91 : decode (am_Mof y_Mo_solve).1 91 = .ok (.lstore_n 3, 1) := by decide +kernel
theorem d_Mo_solve_92 : decode (am_Mof y_Mo_solve).1 92 = .ok (.aload_n 0, 1) := by decide +kernel
theorem d_Mo_solve_93 : decode (am_Mof y_Mo_solve).1 93 = .ok (.getfield 69, 3) := by decide +kernel
theorem d_Mo_solve_96 : decode (am_Mof y_Mo_solve).1 96 = .ok (.bipush 6, 2) := by decide +kernel
theorem d_Mo_solve_98 : decode (am_Mof y_Mo_solve).1 98 = .ok (.iload_n 2, 1) := by decide +kernel
theorem d_Mo_solve_99 : decode (am_Mof y_Mo_solve).1 99 = .ok (.imul, 1) := by decide +kernel
theorem d_Mo_solve_100 : decode (am_Mof y_Mo_solve).1 100 = .ok (.iconst 5, 1) := by decide +kernel
theorem d_Mo_solve_101 : decode (am_Mof y_Mo_solve).1 101 = .ok (.iadd, 1) := by decide +kernel
theorem d_Mo_solve_102 : decode (am_Mof y_Mo_solve).1 102 = .ok (.laload, 1) := by decide +kernel
theorem d_Mo_solve_103 : decode (am_Mof y_Mo_solve).1 103 = .ok (.aload_n 0, 1) := by decide +kernel
theorem d_Mo_solve_104 : decode (am_Mof y_Mo_solve).1 104 = .ok (.getfield 66, 3) := by decide +kernel
theorem d_Mo_solve_107 : decode (am_Mof y_Mo_solve).1 107 = .ok (.bipush 6, 2) := by decide +kernel
theorem d_Mo_solve_109 : decode (am_Mof y_Mo_solve).1 109 = .ok (.iload_n 2, 1) := by decide +kernel
theorem d_Mo_solve_110 : decode (am_Mof y_Mo_solve).1 110 = .ok (.imul, 1) := by decide +kernel
theorem d_Mo_solve_111 : decode (am_Mof y_Mo_solve).1 111 = .ok (.iload_n 2, 1) := by decide +kernel
theorem d_Mo_solve_112 : decode (am_Mof y_Mo_solve).1 112 = .ok (.iadd, 1) := by decide +kernel
theorem d_Mo_solve_113 : decode (am_Mof y_Mo_solve).1 113 = .ok (.laload, 1) := by decide +kernel
theorem d_Mo_solve_114 : decode (am_Mof y_Mo_solve).1 114 = .ok (.lmul, 1) := by decide +kernel
theorem d_Mo_solve_115 : decode (am_Mof y_Mo_solve).1 115 = .ok (.lstore 5, 2) := by decide +kernel
theorem d_Mo_solve_117 : decode (am_Mof y_Mo_solve).1 117 = .ok (.lload_n 3, 1) := by decide +kernel
theorem d_Mo_solve_118 : decode (am_Mof y_Mo_solve).1 118 = .ok (.lload 5, 2) := by decide +kernel
theorem d_Mo_solve_120 : decode (am_Mof y_Mo_solve).1 120 = .ok (.lconst 0, 1) := by decide +kernel
theorem d_Mo_solve_121 : decode (am_Mof y_Mo_solve).1 121 = .ok (.lcmp, 1) := by decide +kernel
theorem d_Mo_solve_122 : decode (am_Mof y_Mo_solve).1 122 = .ok (.ifCond .ge 9, 3) := by decide +kernel
theorem d_Mo_solve_125 : decode (am_Mof y_Mo_solve).1 125 = .ok (.lload 5, 2) := by decide +kernel
theorem d_Mo_solve_127 : decode (am_Mof y_Mo_solve).1 127 = .ok (.lneg, 1) := by decide +kernel
theorem d_Mo_solve_128 : decode (am_Mof y_Mo_solve).1 128 = .ok (.goto 5, 3) := by decide +kernel
theorem d_Mo_solve_131 : decode (am_Mof y_Mo_solve).1 131 = .ok (.lload 5, 2) := by decide +kernel
theorem d_Mo_solve_133 : decode (am_Mof y_Mo_solve).1 133 = .ok (.invokestatic 114, 3) := by decide +kernel
theorem d_Mo_solve_136 : decode (am_Mof y_Mo_solve).1 136 = .ok (.lstore 7, 2) := by decide +kernel
theorem d_Mo_solve_138 : decode (am_Mof y_Mo_solve).1 138 = .ok (.aload_n 0, 1) := by decide +kernel
theorem d_Mo_solve_139 : decode (am_Mof y_Mo_solve).1 139 = .ok (.getfield 45, 3) := by decide +kernel
theorem d_Mo_solve_142 : decode (am_Mof y_Mo_solve).1 142 = .ok (.iconst 4, 1) := by decide +kernel
theorem d_Mo_solve_143 : decode (am_Mof y_Mo_solve).1 143 = .ok (.iload_n 2, 1) := by decide +kernel
theorem d_Mo_solve_144 : decode (am_Mof y_Mo_solve).1 144 = .ok (.imul, 1) := by decide +kernel
theorem d_Mo_solve_145 : decode (am_Mof y_Mo_solve).1 145 = .ok (.iload_n 1, 1) := by decide +kernel
theorem d_Mo_solve_146 : decode (am_Mof y_Mo_solve).1 146 = .ok (.iadd, 1) := by decide +kernel
theorem d_Mo_solve_147 : decode (am_Mof y_Mo_solve).1 147 = .ok (.lload 5, 2) := by decide +kernel
theorem d_Mo_solve_149 : decode (am_Mof y_Mo_solve).1 149 = .ok (.lconst 0, 1) := by decide +kernel
theorem d_Mo_solve_150 : decode (am_Mof y_Mo_solve).1 150 = .ok (.lcmp, 1) := by decide +kernel
theorem d_Mo_solve_151 : decode (am_Mof y_Mo_solve).1 151 = .ok (.ifCond .ge 11, 3) := by decide +kernel
theorem d_Mo_solve_154 : decode (am_Mof y_Mo_solve).1 154 = .ok (.lload_n 3, 1) := by decide +kernel
theorem d_Mo_solve_155 : decode (am_Mof y_Mo_solve).1 155 = .ok (.lneg, 1) := by decide +kernel
theorem d_Mo_solve_156 : decode (am_Mof y_Mo_solve).1 156 = .ok (.lload 7, 2) := by decide +kernel
theorem d_Mo_solve_158 : decode (am_Mof y_Mo_solve).1 158 = .ok (.ldiv, 1) := by decide +kernel
theorem d_Mo_solve_159 : decode (am_Mof y_Mo_solve).1 159 = .ok (.goto 7, 3) := by decide +kernel
theorem d_Mo_solve_162 : decode (am_Mof y_Mo_solve).1 162 = .ok (.lload_n 3, 1) := by decide +kernel
theorem d_Mo_solve_163 : decode (am_Mof y_Mo_solve).1 163 = .ok (.lload 7, 2) := by decide +kernel
theorem d_Mo_solve_165 : decode (am_Mof y_Mo_solve).1 165 = .ok (.ldiv, 1) := by decide +kernel
theorem d_Mo_solve_166 : decode (am_Mof y_Mo_solve).1 166 = .ok (.lastore, 1) := by decide +kernel
theorem d_Mo_solve_167 : decode (am_Mof y_Mo_solve).1 167 = .ok (.aload_n 0, 1) := by decide +kernel
theorem d_Mo_solve_168 : decode (am_Mof y_Mo_solve).1 168 = .ok (.getfield 48, 3) := by decide +kernel
theorem d_Mo_solve_171 : decode (am_Mof y_Mo_solve).1 171 = .ok (.iconst 4, 1) := by decide +kernel
theorem d_Mo_solve_172 : decode (am_Mof y_Mo_solve).1 172 = .ok (.iload_n 2, 1) := by decide +kernel
theorem d_Mo_solve_173 : decode (am_Mof y_Mo_solve).1 173 = .ok (.imul, 1) := by decide +kernel
theorem d_Mo_solve_174 : decode (am_Mof y_Mo_solve).1 174 = .ok (.iload_n 1, 1) := by decide +kernel
theorem d_Mo_solve_175 : decode (am_Mof y_Mo_solve).1 175 = .ok (.iadd, 1) := by decide +kernel
theorem d_Mo_solve_176 : decode (am_Mof y_Mo_solve).1 176 = .ok (.lload 5, 2) := by decide +kernel
theorem d_Mo_solve_178 : decode (am_Mof y_Mo_solve).1 178 = .ok (.lconst 0, 1) := by decide +kernel
theorem d_Mo_solve_179 : decode (am_Mof y_Mo_solve).1 179 = .ok (.lcmp, 1) := by decide +kernel
theorem d_Mo_solve_180 : decode (am_Mof y_Mo_solve).1 180 = .ok (.ifCond .ge 9, 3) := by decide +kernel
theorem d_Mo_solve_183 : decode (am_Mof y_Mo_solve).1 183 = .ok (.lload 5, 2) := by decide +kernel
theorem d_Mo_solve_185 : decode (am_Mof y_Mo_solve).1 185 = .ok (.lneg, 1) := by decide +kernel
theorem d_Mo_solve_186 : decode (am_Mof y_Mo_solve).1 186 = .ok (.goto 5, 3) := by decide +kernel
theorem d_Mo_solve_189 : decode (am_Mof y_Mo_solve).1 189 = .ok (.lload 5, 2) := by decide +kernel
theorem d_Mo_solve_191 : decode (am_Mof y_Mo_solve).1 191 = .ok (.lload 7, 2) := by decide +kernel
theorem d_Mo_solve_193 : decode (am_Mof y_Mo_solve).1 193 = .ok (.ldiv, 1) := by decide +kernel
theorem d_Mo_solve_194 : decode (am_Mof y_Mo_solve).1 194 = .ok (.lastore, 1) := by decide +kernel
theorem d_Mo_solve_195 : decode (am_Mof y_Mo_solve).1 195 = .ok (.iinc 2 1, 3) := by decide +kernel
theorem d_Mo_solve_198 : decode (am_Mof y_Mo_solve).1 198 = .ok (.goto (-138), 3) := by decide +kernel
theorem d_Mo_solve_201 : decode (am_Mof y_Mo_solve).1 201 = .ok (.iinc 1 1, 3) := by decide +kernel
theorem d_Mo_solve_204 : decode (am_Mof y_Mo_solve).1 204 = .ok (.goto (-160), 3) := by decide +kernel
theorem d_Mo_solve_207 : decode (am_Mof y_Mo_solve).1 207 = .ok (.aload_n 0, 1) := by decide +kernel
theorem d_Mo_solve_208 : decode (am_Mof y_Mo_solve).1 208 = .ok (.iconst 1, 1) := by decide +kernel
theorem d_Mo_solve_209 : decode (am_Mof y_Mo_solve).1 209 = .ok (.putfield 141, 3) := by decide +kernel
theorem d_Mo_solve_212 : decode (am_Mof y_Mo_solve).1 212 = .ok (.aload_n 0, 1) := by decide +kernel
theorem d_Mo_solve_213 : decode (am_Mof y_Mo_solve).1 213 = .ok (.aload_n 0, 1) := by decide +kernel
theorem d_Mo_solve_214 : decode (am_Mof y_Mo_solve).1 214 = .ok (.getfield 72, 3) := by decide +kernel
theorem d_Mo_solve_217 : decode (am_Mof y_Mo_solve).1 217 = .ok (.putfield 145, 3) := by decide +kernel
theorem d_Mo_solve_220 : decode (am_Mof y_Mo_solve).1 220 = .ok (.aload_n 0, 1) := by decide +kernel
theorem d_Mo_solve_221 : decode (am_Mof y_Mo_solve).1 221 = .ok (.aload_n 0, 1) := by decide +kernel
theorem d_Mo_solve_222 : decode (am_Mof y_Mo_solve).1 222 = .ok (.getfield 97, 3) := by decide +kernel
theorem d_Mo_solve_225 : decode (am_Mof y_Mo_solve).1 225 = .ok (.putfield 148, 3) := by decide +kernel
theorem d_Mo_solve_228 : decode (am_Mof y_Mo_solve).1 228 = .ok (.iconst 0, 1) := by decide +kernel
theorem d_Mo_solve_229 : decode (am_Mof y_Mo_solve).1 229 = .ok (.istore_n 1, 1) := by decide +kernel
theorem d_Mo_solve_230 : decode (am_Mof y_Mo_solve).1 230 = .ok (.iload_n 1, 1) := by decide +kernel
theorem d_Mo_solve_231 : decode (am_Mof y_Mo_solve).1 231 = .ok (.bipush 10, 2) := by decide +kernel
theorem d_Mo_solve_233 : decode (am_Mof y_Mo_solve).1 233 = .ok (.if_icmp .ge 21, 3) := by decide +kernel
theorem d_Mo_solve_236 : decode (am_Mof y_Mo_solve).1 236 = .ok (.aload_n 0, 1) := by decide +kernel
theorem d_Mo_solve_237 : decode (am_Mof y_Mo_solve).1 237 = .ok (.getfield 54, 3) := by decide +kernel
theorem d_Mo_solve_240 : decode (am_Mof y_Mo_solve).1 240 = .ok (.iload_n 1, 1) := by decide +kernel
theorem d_Mo_solve_241 : decode (am_Mof y_Mo_solve).1 241 = .ok (.aload_n 0, 1) := by decide +kernel
theorem d_Mo_solve_242 : decode (am_Mof y_Mo_solve).1 242 = .ok (.getfield 39, 3) := by decide +kernel
theorem d_Mo_solve_245 : decode (am_Mof y_Mo_solve).1 245 = .ok (.iload_n 1, 1) := by decide +kernel
theorem d_Mo_solve_246 : decode (am_Mof y_Mo_solve).1 246 = .ok (.laload, 1) := by decide +kernel
theorem d_Mo_solve_247 : decode (am_Mof y_Mo_solve).1 247 = .ok (.lastore, 1) := by decide +kernel
theorem d_Mo_solve_248 : decode (am_Mof y_Mo_solve).1 248 = .ok (.iinc 1 1, 3) := by decide +kernel
theorem d_Mo_solve_251 : decode (am_Mof y_Mo_solve).1 251 = .ok (.goto (-21), 3) := by decide +kernel
theorem d_Mo_solve_254 : decode (am_Mof y_Mo_solve).1 254 = .ok (.iconst 0, 1) := by decide +kernel
theorem d_Mo_solve_255 : decode (am_Mof y_Mo_solve).1 255 = .ok (.istore_n 1, 1) := by decide +kernel
theorem d_Mo_solve_256 : decode (am_Mof y_Mo_solve).1 256 = .ok (.iload_n 1, 1) := by decide +kernel
theorem d_Mo_solve_257 : decode (am_Mof y_Mo_solve).1 257 = .ok (.sipush 160, 3) := by decide +kernel
theorem d_Mo_solve_260 : decode (am_Mof y_Mo_solve).1 260 = .ok (.if_icmp .ge 16, 3) := by decide +kernel
theorem d_Mo_solve_263 : decode (am_Mof y_Mo_solve).1 263 = .ok (.aload_n 0, 1) := by decide +kernel
theorem d_Mo_solve_264 : decode (am_Mof y_Mo_solve).1 264 = .ok (.getfield 57, 3) := by decide +kernel
theorem d_Mo_solve_267 : decode (am_Mof y_Mo_solve).1 267 = .ok (.iload_n 1, 1) := by decide +kernel
theorem d_Mo_solve_268 : decode (am_Mof y_Mo_solve).1 268 = .ok (.lconst 0, 1) := by decide +kernel
theorem d_Mo_solve_269 : decode (am_Mof y_Mo_solve).1 269 = .ok (.lastore, 1) := by decide +kernel
theorem d_Mo_solve_270 : decode (am_Mof y_Mo_solve).1 270 = .ok (.iinc 1 1, 3) := by decide +kernel
theorem d_Mo_solve_273 : decode (am_Mof y_Mo_solve).1 273 = .ok (.goto (-17), 3) := by decide +kernel
theorem d_Mo_solve_276 : decode (am_Mof y_Mo_solve).1 276 = .ok (.aload_n 0, 1) := by decide +kernel
theorem d_Mo_solve_277 : decode (am_Mof y_Mo_solve).1 277 = .ok (.invokevirtual 151, 3) := by decide +kernel
theorem d_Mo_solve_280 : decode (am_Mof y_Mo_solve).1 280 = .ok (.iconst 0, 1) := by decide +kernel
theorem d_Mo_solve_281 : decode (am_Mof y_Mo_solve).1 281 = .ok (.ireturn, 1) := by decide +kernel
theorem d_Mo_ends_0 : decode (am_Mof y_Mo_ends).1 0 = .ok (.iconst 1, 1) := by decide +kernel
theorem d_Mo_ends_1 : decode (am_Mof y_Mo_ends).1 1 = .ok (.iload_n 1, 1) := by decide +kernel
theorem d_Mo_ends_2 : decode (am_Mof y_Mo_ends).1 2 = .ok (.ishl, 1) := by decide +kernel
theorem d_Mo_ends_3 : decode (am_Mof y_Mo_ends).1 3 = .ok (.istore_n 3, 1) := by decide +kernel
theorem d_Mo_ends_4 : decode (am_Mof y_Mo_ends).1 4 = .ok (.iconst 0, 1) := by decide +kernel
theorem d_Mo_ends_5 : decode (am_Mof y_Mo_ends).1 5 = .ok (.istore 4, 2) := by decide +kernel
theorem d_Mo_ends_7 : decode (am_Mof y_Mo_ends).1 7 = .ok (.iload 4, 2) := by decide +kernel
theorem d_Mo_ends_9 : decode (am_Mof y_Mo_ends).1 9 = .ok (.iconst 5, 1) := by decide +kernel
theorem d_Mo_ends_10 : decode (am_Mof y_Mo_ends).1 10 = .ok (.if_icmp .ge 107, 3) := by decide +kernel
theorem d_Mo_ends_13 : decode (am_Mof y_Mo_ends).1 13 = .ok (.iconst 0, 1) := by decide +kernel
theorem d_Mo_ends_14 : decode (am_Mof y_Mo_ends).1 14 = .ok (.istore 5, 2) := by decide +kernel
theorem d_Mo_ends_16 : decode (am_Mof y_Mo_ends).1 16 = .ok (.iload 5, 2) := by decide +kernel
theorem d_Mo_ends_18 : decode (am_Mof y_Mo_ends).1 18 = .ok (.aload_n 0, 1) := by decide +kernel
theorem d_Mo_ends_19 : decode (am_Mof y_Mo_ends).1 19 = .ok (.getfield 72, 3) := by decide +kernel
theorem d_Mo_ends_22 : decode (am_Mof y_Mo_ends).1 22 = .ok (.if_icmp .ge 89, 3) := by decide +kernel
theorem d_Mo_ends_25 : decode (am_Mof y_Mo_ends).1 25 = .ok (.iconst 0, 1) := by decide +kernel
theorem d_Mo_ends_26 : decode (am_Mof y_Mo_ends).1 26 = .ok (.istore 6, 2) := by decide +kernel
theorem d_Mo_ends_28 : decode (am_Mof y_Mo_ends).1 28 = .ok (.iload 6, 2) := by decide +kernel
theorem d_Mo_ends_30 : decode (am_Mof y_Mo_ends).1 30 = .ok (.aload_n 0, 1) := by decide +kernel
theorem d_Mo_ends_31 : decode (am_Mof y_Mo_ends).1 31 = .ok (.getfield 72, 3) := by decide +kernel
theorem d_Mo_ends_34 : decode (am_Mof y_Mo_ends).1 34 = .ok (.if_icmp .ge 71, 3) := by decide +kernel
theorem d_Mo_ends_37 : decode (am_Mof y_Mo_ends).1 37 = .ok (.iload_n 3, 1) := by decide +kernel
theorem d_Mo_ends_38 : decode (am_Mof y_Mo_ends).1 38 = .ok (.iload 5, 2) := by decide +kernel
theorem d_Mo_ends_40 : decode (am_Mof y_Mo_ends).1 40 = .ok (.ishr, 1) := by decide +kernel
theorem d_Mo_ends_41 : decode (am_Mof y_Mo_ends).1 41 = .ok (.iconst 1, 1) := by decide +kernel
theorem d_Mo_ends_42 : decode (am_Mof y_Mo_ends).1 42 = .ok (.iand, 1) := by decide +kernel
theorem d_Mo_ends_43 : decode (am_Mof y_Mo_ends).1 43 = .ok (.iconst 1, 1) := by decide +kernel
theorem d_Mo_ends_44 : decode (am_Mof y_Mo_ends).1 44 = .ok (.if_icmp .ne 36, 3) := by decide +kernel
theorem d_Mo_ends_47 : decode (am_Mof y_Mo_ends).1 47 = .ok (.aload_n 0, 1) := by decide +kernel
theorem d_Mo_ends_48 : decode (am_Mof y_Mo_ends).1 48 = .ok (.getfield 13, 3) := by decide +kernel
theorem d_Mo_ends_51 : decode (am_Mof y_Mo_ends).1 51 = .ok (.iconst 4, 1) := by decide +kernel
theorem d_Mo_ends_52 : decode (am_Mof y_Mo_ends).1 52 = .ok (.iload 5, 2) := by decide +kernel
theorem d_Mo_ends_54 : decode (am_Mof y_Mo_ends).1 54 = .ok (.imul, 1) := by decide +kernel
theorem d_Mo_ends_55 : decode (am_Mof y_Mo_ends).1 55 = .ok (.iload_n 2, 1) := by decide +kernel
theorem d_Mo_ends_56 : decode (am_Mof y_Mo_ends).1 56 = .ok (.iadd, 1) := by decide +kernel
theorem d_Mo_ends_57 : decode (am_Mof y_Mo_ends).1 57 = .ok (.baload, 1) := by decide +kernel
theorem d_Mo_ends_58 : decode (am_Mof y_Mo_ends).1 58 = .ok (.ifCond .ne 22, 3) := by decide +kernel
theorem d_Mo_ends_61 : decode (am_Mof y_Mo_ends).1 61 = .ok (.aload_n 0, 1) := by decide +kernel
theorem d_Mo_ends_62 : decode (am_Mof y_Mo_ends).1 62 = .ok (.getfield 7, 3) := by decide +kernel
theorem d_Mo_ends_65 : decode (am_Mof y_Mo_ends).1 65 = .ok (.iconst 5, 1) := by decide +kernel
theorem d_Mo_ends_66 : decode (am_Mof y_Mo_ends).1 66 = .ok (.iload 5, 2) := by decide +kernel
theorem d_Mo_ends_68 : decode (am_Mof y_Mo_ends).1 68 = .ok (.imul, 1) := by decide +kernel
theorem d_Mo_ends_69 : decode (am_Mof y_Mo_ends).1 69 = .ok (.iload 6, 2) := by decide +kernel
theorem d_Mo_ends_71 : decode (am_Mof y_Mo_ends).1 71 = .ok (.iadd, 1) := by decide +kernel
theorem d_Mo_ends_72 : decode (am_Mof y_Mo_ends).1 72 = .ok (.iaload, 1) := by decide +kernel
theorem d_Mo_ends_73 : decode (am_Mof y_Mo_ends).1 73 = .ok (.ifCond .le 7, 3) := by decide +kernel
theorem d_Mo_ends_76 : decode (am_Mof y_Mo_ends).1 76 = .ok (.iconst 1, 1) := by decide +kernel
theorem d_Mo_ends_77 : decode (am_Mof y_Mo_ends).1 77 = .ok (.goto 4, 3) := by decide +kernel
theorem d_Mo_ends_80 : decode (am_Mof y_Mo_ends).1 80 = .ok (.iconst 0, 1) := by decide +kernel
theorem d_Mo_ends_81 : decode (am_Mof y_Mo_ends).1 81 = .ok (.istore 7, 2) := by decide +kernel
theorem d_Mo_ends_83 : decode (am_Mof y_Mo_ends).1 83 = .ok (.iload_n 3, 1) := by decide +kernel
theorem d_Mo_ends_84 : decode (am_Mof y_Mo_ends).1 84 = .ok (.iload 7, 2) := by decide +kernel
theorem d_Mo_ends_86 : decode (am_Mof y_Mo_ends).1 86 = .ok (.ifCond .eq 10, 3) := by decide +kernel
theorem d_Mo_ends_89 : decode (am_Mof y_Mo_ends).1 89 = .ok (.iconst 1, 1) := by decide +kernel
theorem d_Mo_ends_90 : decode (am_Mof y_Mo_ends).1 90 = .ok (.iload 6, 2) := by decide +kernel
theorem d_Mo_ends_92 : decode (am_Mof y_Mo_ends).1 92 = .ok (.ishl, 1) := by decide +kernel
theorem d_Mo_ends_93 : decode (am_Mof y_Mo_ends).1 93 = .ok (.goto 4, 3) := by decide +kernel
theorem d_Mo_ends_96 : decode (am_Mof y_Mo_ends).1 96 = .ok (.iconst 0, 1) := by decide +kernel
theorem d_Mo_ends_97 : decode (am_Mof y_Mo_ends).1 97 = .ok (.ior, 1) := by decide +kernel
theorem d_Mo_ends_98 : decode (am_Mof y_Mo_ends).1 98 = .ok (.istore_n 3, 1) := by decide +kernel
theorem d_Mo_ends_99 : decode (am_Mof y_Mo_ends).1 99 = .ok (.iinc 6 1, 3) := by decide +kernel
theorem d_Mo_ends_102 : decode (am_Mof y_Mo_ends).1 102 = .ok (.goto (-74), 3) := by decide +kernel
theorem d_Mo_ends_105 : decode (am_Mof y_Mo_ends).1 105 = .ok (.iinc 5 1, 3) := by decide +kernel
theorem d_Mo_ends_108 : decode (am_Mof y_Mo_ends).1 108 = .ok (.goto (-92), 3) := by decide +kernel
theorem d_Mo_ends_111 : decode (am_Mof y_Mo_ends).1 111 = .ok (.iinc 4 1, 3) := by decide +kernel
theorem d_Mo_ends_114 : decode (am_Mof y_Mo_ends).1 114 = .ok (.goto (-107), 3) := by decide +kernel
theorem d_Mo_ends_117 : decode (am_Mof y_Mo_ends).1 117 = .ok (.iconst 0, 1) := by decide +kernel
theorem d_Mo_ends_118 : decode (am_Mof y_Mo_ends).1 118 = .ok (.istore 4, 2) := by decide +kernel
theorem d_Mo_ends_120 : decode (am_Mof y_Mo_ends).1 120 = .ok (.iconst 0, 1) := by decide +kernel
theorem d_Mo_ends_121 : decode (am_Mof y_Mo_ends).1 121 = .ok (.istore 5, 2) := by decide +kernel
theorem d_Mo_ends_123 : decode (am_Mof y_Mo_ends).1 123 = .ok (.iload 5, 2) := by decide +kernel
theorem d_Mo_ends_125 : decode (am_Mof y_Mo_ends).1 125 = .ok (.aload_n 0, 1) := by decide +kernel
theorem d_Mo_ends_126 : decode (am_Mof y_Mo_ends).1 126 = .ok (.getfield 72, 3) := by decide +kernel
theorem d_Mo_ends_129 : decode (am_Mof y_Mo_ends).1 129 = .ok (.if_icmp .ge 65, 3) := by decide +kernel
theorem d_Mo_ends_132 : decode (am_Mof y_Mo_ends).1 132 = .ok (.iload 4, 2) := by decide +kernel
theorem d_Mo_ends_134 : decode (am_Mof y_Mo_ends).1 134 = .ok (.ifCond .ne 47, 3) := by decide +kernel
theorem d_Mo_ends_137 : decode (am_Mof y_Mo_ends).1 137 = .ok (.iload_n 3, 1) := by decide +kernel
theorem d_Mo_ends_138 : decode (am_Mof y_Mo_ends).1 138 = .ok (.iload 5, 2) := by decide +kernel
theorem d_Mo_ends_140 : decode (am_Mof y_Mo_ends).1 140 = .ok (.ishr, 1) := by decide +kernel
theorem d_Mo_ends_141 : decode (am_Mof y_Mo_ends).1 141 = .ok (.iconst 1, 1) := by decide +kernel
theorem d_Mo_ends_142 : decode (am_Mof y_Mo_ends).1 142 = .ok (.iand, 1) := by decide +kernel
theorem d_Mo_ends_143 : decode (am_Mof y_Mo_ends).1 143 = .ok (.iconst 1, 1) := by decide +kernel
theorem d_Mo_ends_144 : decode (am_Mof y_Mo_ends).1 144 = .ok (.if_icmp .ne 41, 3) := by decide +kernel
theorem d_Mo_ends_147 : decode (am_Mof y_Mo_ends).1 147 = .ok (.aload_n 0, 1) := by decide +kernel
theorem d_Mo_ends_148 : decode (am_Mof y_Mo_ends).1 148 = .ok (.getfield 13, 3) := by decide +kernel
theorem d_Mo_ends_151 : decode (am_Mof y_Mo_ends).1 151 = .ok (.iconst 4, 1) := by decide +kernel
theorem d_Mo_ends_152 : decode (am_Mof y_Mo_ends).1 152 = .ok (.iload 5, 2) := by decide +kernel
theorem d_Mo_ends_154 : decode (am_Mof y_Mo_ends).1 154 = .ok (.imul, 1) := by decide +kernel
theorem d_Mo_ends_155 : decode (am_Mof y_Mo_ends).1 155 = .ok (.iload_n 2, 1) := by decide +kernel
theorem d_Mo_ends_156 : decode (am_Mof y_Mo_ends).1 156 = .ok (.iadd, 1) := by decide +kernel
theorem d_Mo_ends_157 : decode (am_Mof y_Mo_ends).1 157 = .ok (.baload, 1) := by decide +kernel
theorem d_Mo_ends_158 : decode (am_Mof y_Mo_ends).1 158 = .ok (.ifCond .ne 23, 3) := by decide +kernel
theorem d_Mo_ends_161 : decode (am_Mof y_Mo_ends).1 161 = .ok (.aload_n 0, 1) := by decide +kernel
theorem d_Mo_ends_162 : decode (am_Mof y_Mo_ends).1 162 = .ok (.iload 5, 2) := by decide +kernel
theorem d_Mo_ends_164 : decode (am_Mof y_Mo_ends).1 164 = .ok (.invokevirtual 110, 3) := by decide +kernel
theorem d_Mo_ends_167 : decode (am_Mof y_Mo_ends).1 167 = .ok (.ifCond .eq 14, 3) := by decide +kernel
theorem d_Mo_ends_170 : decode (am_Mof y_Mo_ends).1 170 = .ok (.aload_n 0, 1) := by decide +kernel
theorem d_Mo_ends_171 : decode (am_Mof y_Mo_ends).1 171 = .ok (.iload 5, 2) := by decide +kernel
theorem d_Mo_ends_173 : decode (am_Mof y_Mo_ends).1 173 = .ok (.invokevirtual 110, 3) := by decide +kernel
theorem d_Mo_ends_176 : decode (am_Mof y_Mo_ends).1 176 = .ok (.bipush 10, 2) := by decide +kernel
theorem d_Mo_ends_178 : decode (am_Mof y_Mo_ends).1 178 = .ok (.if_icmp .ge 7, 3) := by decide +kernel
theorem d_Mo_ends_181 : decode (am_Mof y_Mo_ends).1 181 = .ok (.iconst 1, 1) := by decide +kernel
theorem d_Mo_ends_182 : decode (am_Mof y_Mo_ends).1 182 = .ok (.goto 4, 3) := by decide +kernel
theorem d_Mo_ends_185 : decode (am_Mof y_Mo_ends).1 185 = .ok (.iconst 0, 1) := by decide +kernel
theorem d_Mo_ends_186 : decode (am_Mof y_Mo_ends).1 186 = .ok (.istore 4, 2) := by decide +kernel
theorem d_Mo_ends_188 : decode (am_Mof y_Mo_ends).1 188 = .ok (.iinc 5 1, 3) := by decide +kernel
theorem d_Mo_ends_191 : decode (am_Mof y_Mo_ends).1 191 = .ok (.goto (-68), 3) := by decide +kernel
theorem d_Mo_ends_194 : decode (am_Mof y_Mo_ends).1 194 = .ok (.iload 4, 2) := by decide +kernel
theorem d_Mo_ends_196 : decode (am_Mof y_Mo_ends).1 196 = .ok (.ireturn, 1) := by decide +kernel
theorem d_Mo_shared_0 : decode (am_Mof y_Mo_shared).1 0 = .ok (.iconst 0, 1) := by decide +kernel
theorem d_Mo_shared_1 : decode (am_Mof y_Mo_shared).1 1 = .ok (.istore_n 2, 1) := by decide +kernel
theorem d_Mo_shared_2 : decode (am_Mof y_Mo_shared).1 2 = .ok (.iconst 0, 1) := by decide +kernel
theorem d_Mo_shared_3 : decode (am_Mof y_Mo_shared).1 3 = .ok (.istore_n 3, 1) := by decide +kernel
theorem d_Mo_shared_4 : decode (am_Mof y_Mo_shared).1 4 = .ok (.iload_n 3, 1) := by decide +kernel
theorem d_Mo_shared_5 : decode (am_Mof y_Mo_shared).1 5 = .ok (.iconst 5, 1) := by decide +kernel
theorem d_Mo_shared_6 : decode (am_Mof y_Mo_shared).1 6 = .ok (.if_icmp .ge 22, 3) := by decide +kernel
theorem d_Mo_shared_9 : decode (am_Mof y_Mo_shared).1 9 = .ok (.iload_n 2, 1) := by decide +kernel
theorem d_Mo_shared_10 : decode (am_Mof y_Mo_shared).1 10 = .ok (.aload_n 0, 1) := by decide +kernel
theorem d_Mo_shared_11 : decode (am_Mof y_Mo_shared).1 11 = .ok (.getfield 7, 3) := by decide +kernel
theorem d_Mo_shared_14 : decode (am_Mof y_Mo_shared).1 14 = .ok (.iconst 5, 1) := by decide +kernel
theorem d_Mo_shared_15 : decode (am_Mof y_Mo_shared).1 15 = .ok (.iload_n 1, 1) := by decide +kernel
theorem d_Mo_shared_16 : decode (am_Mof y_Mo_shared).1 16 = .ok (.imul, 1) := by decide +kernel
theorem d_Mo_shared_17 : decode (am_Mof y_Mo_shared).1 17 = .ok (.iload_n 3, 1) := by decide +kernel
theorem d_Mo_shared_18 : decode (am_Mof y_Mo_shared).1 18 = .ok (.iadd, 1) := by decide +kernel
theorem d_Mo_shared_19 : decode (am_Mof y_Mo_shared).1 19 = .ok (.iaload, 1) := by decide +kernel
theorem d_Mo_shared_20 : decode (am_Mof y_Mo_shared).1 20 = .ok (.iadd, 1) := by decide +kernel
theorem d_Mo_shared_21 : decode (am_Mof y_Mo_shared).1 21 = .ok (.istore_n 2, 1) := by decide +kernel
theorem d_Mo_shared_22 : decode (am_Mof y_Mo_shared).1 22 = .ok (.iinc 3 1, 3) := by decide +kernel
theorem d_Mo_shared_25 : decode (am_Mof y_Mo_shared).1 25 = .ok (.goto (-21), 3) := by decide +kernel
theorem d_Mo_shared_28 : decode (am_Mof y_Mo_shared).1 28 = .ok (.iload_n 2, 1) := by decide +kernel
theorem d_Mo_shared_29 : decode (am_Mof y_Mo_shared).1 29 = .ok (.ireturn, 1) := by decide +kernel
theorem d_Mo_layOut_0 : decode (am_Mof y_Mo_layOut).1 0 = .ok (.iconst 0, 1) := by decide +kernel
theorem d_Mo_layOut_1 : decode (am_Mof y_Mo_layOut).1 1 = .ok (.istore_n 2, 1) := by decide +kernel
theorem d_Mo_layOut_2 : decode (am_Mof y_Mo_layOut).1 2 = .ok (.iload_n 2, 1) := by decide +kernel
theorem d_Mo_layOut_3 : decode (am_Mof y_Mo_layOut).1 3 = .ok (.aload_n 0, 1) := by decide +kernel
theorem d_Mo_layOut_4 : decode (am_Mof y_Mo_layOut).1 4 = .ok (.getfield 72, 3) := by decide +kernel
theorem d_Mo_layOut_7 : decode (am_Mof y_Mo_layOut).1 7 = .ok (.if_icmp .ge 191, 3) := by decide +kernel
theorem d_Mo_layOut_10 : decode (am_Mof y_Mo_layOut).1 10 = .ok (.iconst 0, 1) := by decide +kernel
theorem d_Mo_layOut_11 : decode (am_Mof y_Mo_layOut).1 11 = .ok (.istore_n 3, 1) := by decide +kernel
theorem d_Mo_layOut_12 : decode (am_Mof y_Mo_layOut).1 12 = .ok (.iload_n 3, 1) := by decide +kernel
theorem d_Mo_layOut_13 : decode (am_Mof y_Mo_layOut).1 13 = .ok (.iconst 5, 1) := by decide +kernel
theorem d_Mo_layOut_14 : decode (am_Mof y_Mo_layOut).1 14 = .ok (.if_icmp .gt 21, 3) := by decide +kernel
theorem d_Mo_layOut_17 : decode (am_Mof y_Mo_layOut).1 17 = .ok (.aload_n 0, 1) := by decide +kernel
theorem d_Mo_layOut_18 : decode (am_Mof y_Mo_layOut).1 18 = .ok (.bipush 6, 2) := by decide +kernel
theorem d_Mo_layOut_20 : decode (am_Mof y_Mo_layOut).1 20 = .ok (.iload_n 2, 1) := by decide +kernel
theorem d_Mo_layOut_21 : decode (am_Mof y_Mo_layOut).1 21 = .ok (.imul, 1) := by decide +kernel
theorem d_Mo_layOut_22 : decode (am_Mof y_Mo_layOut).1 22 = .ok (.iload_n 3, 1) := by decide +kernel
theorem d_Mo_layOut_23 : decode (am_Mof y_Mo_layOut).1 23 = .ok (.iadd, 1) := by decide +kernel
theorem d_Mo_layOut_24 : decode (am_Mof y_Mo_layOut).1 24 = .ok (.lconst 0, 1) := by decide +kernel
theorem d_Mo_layOut_25 : decode (am_Mof y_Mo_layOut).1 25 = .ok (.lconst 1, 1) := by decide +kernel
theorem d_Mo_layOut_26 : decode (am_Mof y_Mo_layOut).1 26 = .ok (.invokevirtual 118, 3) := by decide +kernel
theorem d_Mo_layOut_29 : decode (am_Mof y_Mo_layOut).1 29 = .ok (.iinc 3 1, 3) := by decide +kernel
theorem d_Mo_layOut_32 : decode (am_Mof y_Mo_layOut).1 32 = .ok (.goto (-20), 3) := by decide +kernel
theorem d_Mo_layOut_35 : decode (am_Mof y_Mo_layOut).1 35 = .ok (.aload_n 0, 1) := by decide +kernel
theorem d_Mo_layOut_36 : decode (am_Mof y_Mo_layOut).1 36 = .ok (.getfield 13, 3) := by decide +kernel
theorem d_Mo_layOut_39 : decode (am_Mof y_Mo_layOut).1 39 = .ok (.iconst 4, 1) := by decide +kernel
theorem d_Mo_layOut_40 : decode (am_Mof y_Mo_layOut).1 40 = .ok (.iload_n 2, 1) := by decide +kernel
theorem d_Mo_layOut_41 : decode (am_Mof y_Mo_layOut).1 41 = .ok (.imul, 1) := by decide +kernel
theorem d_Mo_layOut_42 : decode (am_Mof y_Mo_layOut).1 42 = .ok (.iload_n 1, 1) := by decide +kernel
theorem d_Mo_layOut_43 : decode (am_Mof y_Mo_layOut).1 43 = .ok (.iadd, 1) := by decide +kernel
theorem d_Mo_layOut_44 : decode (am_Mof y_Mo_layOut).1 44 = .ok (.baload, 1) := by decide +kernel
theorem d_Mo_layOut_45 : decode (am_Mof y_Mo_layOut).1 45 = .ok (.ifCond .ne 15, 3) := by decide +kernel
theorem d_Mo_layOut_48 : decode (am_Mof y_Mo_layOut).1 48 = .ok (.aload_n 0, 1) := by decide +kernel
theorem d_Mo_layOut_49 : decode (am_Mof y_Mo_layOut).1 49 = .ok (.iload_n 2, 1) := by decide +kernel
theorem d_Mo_layOut_50 : decode (am_Mof y_Mo_layOut).1 50 = .ok (.invokevirtual 110, 3) := by decide +kernel
theorem d_Mo_layOut_53 : decode (am_Mof y_Mo_layOut).1 53 = .ok (.ifCond .le 7, 3) := by decide +kernel
theorem d_Mo_layOut_56 : decode (am_Mof y_Mo_layOut).1 56 = .ok (.iconst 1, 1) := by decide +kernel
theorem d_Mo_layOut_57 : decode (am_Mof y_Mo_layOut).1 57 = .ok (.goto 4, 3) := by decide +kernel
theorem d_Mo_layOut_60 : decode (am_Mof y_Mo_layOut).1 60 = .ok (.iconst 0, 1) := by decide +kernel
theorem d_Mo_layOut_61 : decode (am_Mof y_Mo_layOut).1 61 = .ok (.istore_n 3, 1) := by decide +kernel
theorem d_Mo_layOut_62 : decode (am_Mof y_Mo_layOut).1 62 = .ok (.iconst 0, 1) := by decide +kernel
theorem d_Mo_layOut_63 : decode (am_Mof y_Mo_layOut).1 63 = .ok (.istore 4, 2) := by decide +kernel
theorem d_Mo_layOut_65 : decode (am_Mof y_Mo_layOut).1 65 = .ok (.iload 4, 2) := by decide +kernel
theorem d_Mo_layOut_67 : decode (am_Mof y_Mo_layOut).1 67 = .ok (.aload_n 0, 1) := by decide +kernel
theorem d_Mo_layOut_68 : decode (am_Mof y_Mo_layOut).1 68 = .ok (.getfield 72, 3) := by decide +kernel
theorem d_Mo_layOut_71 : decode (am_Mof y_Mo_layOut).1 71 = .ok (.if_icmp .ge 57, 3) := by decide +kernel
theorem d_Mo_layOut_74 : decode (am_Mof y_Mo_layOut).1 74 = .ok (.aload_n 0, 1) := by decide +kernel
theorem d_Mo_layOut_75 : decode (am_Mof y_Mo_layOut).1 75 = .ok (.bipush 6, 2) := by decide +kernel
theorem d_Mo_layOut_77 : decode (am_Mof y_Mo_layOut).1 77 = .ok (.iload_n 2, 1) := by decide +kernel
theorem d_Mo_layOut_78 : decode (am_Mof y_Mo_layOut).1 78 = .ok (.imul, 1) := by decide +kernel
theorem d_Mo_layOut_79 : decode (am_Mof y_Mo_layOut).1 79 = .ok (.iload 4, 2) := by decide +kernel
theorem d_Mo_layOut_81 : decode (am_Mof y_Mo_layOut).1 81 = .ok (.iadd, 1) := by decide +kernel
theorem d_Mo_layOut_82 : decode (am_Mof y_Mo_layOut).1 82 = .ok (.iload 4, 2) := by decide +kernel
theorem d_Mo_layOut_84 : decode (am_Mof y_Mo_layOut).1 84 = .ok (.iload_n 2, 1) := by decide +kernel
theorem d_Mo_layOut_85 : decode (am_Mof y_Mo_layOut).1 85 = .ok (.if_icmp .ne 9, 3) := by decide +kernel
theorem d_Mo_layOut_88 : decode (am_Mof y_Mo_layOut).1 88 = .ok (.ldc2_w 80, 3) := by decide +kernel
theorem d_Mo_layOut_91 : decode (am_Mof y_Mo_layOut).1 91 = .ok (.goto 4, 3) := by decide +kernel
theorem d_Mo_layOut_94 : decode (am_Mof y_Mo_layOut).1 94 = .ok (.lconst 0, 1) := by decide +kernel
theorem d_Mo_layOut_95 : decode (am_Mof y_Mo_layOut).1 95 = .ok (.iload_n 3, 1) := by decide +kernel
theorem d_Mo_layOut_96 : decode (am_Mof y_Mo_layOut).1 96 = .ok (.ifCond .eq 17, 3) := by decide +kernel
theorem d_Mo_layOut_99 : decode (am_Mof y_Mo_layOut).1 99 = .ok (.aload_n 0, 1) := by decide +kernel
theorem d_Mo_layOut_100 : decode (am_Mof y_Mo_layOut).1 100 = .ok (.getfield 7, 3) := by decide +kernel
theorem d_Mo_layOut_103 : decode (am_Mof y_Mo_layOut).1 103 = .ok (.iconst 5, 1) := by decide +kernel
theorem d_Mo_layOut_104 : decode (am_Mof y_Mo_layOut).1 104 = .ok (.iload_n 2, 1) := by decide +kernel
theorem d_Mo_layOut_105 : decode (am_Mof y_Mo_layOut).1 105 = .ok (.imul, 1) := by decide +kernel
theorem d_Mo_layOut_106 : decode (am_Mof y_Mo_layOut).1 106 = .ok (.iload 4, 2) := by decide +kernel
theorem d_Mo_layOut_108 : decode (am_Mof y_Mo_layOut).1 108 = .ok (.iadd, 1) := by decide +kernel
theorem d_Mo_layOut_109 : decode (am_Mof y_Mo_layOut).1 109 = .ok (.iaload, 1) := by decide +kernel
theorem d_Mo_layOut_110 : decode (am_Mof y_Mo_layOut).1 110 = .ok (.goto 4, 3) := by decide +kernel
theorem d_Mo_layOut_113 : decode (am_Mof y_Mo_layOut).1 113 = .ok (.iconst 0, 1) := by decide +kernel
theorem d_Mo_layOut_114 : decode (am_Mof y_Mo_layOut).1 114 = .ok (.i2l, 1) := by decide +kernel
theorem d_Mo_layOut_115 : decode (am_Mof y_Mo_layOut).1 115 = .ok (.lsub, 1) := by decide +kernel
theorem d_Mo_layOut_116 : decode (am_Mof y_Mo_layOut).1 116 = .ok (.ldc2_w 80, 3) := by decide +kernel
theorem d_Mo_layOut_119 : decode (am_Mof y_Mo_layOut).1 119 = .ok (.invokevirtual 118, 3) := by decide +kernel
theorem d_Mo_layOut_122 : decode (am_Mof y_Mo_layOut).1 122 = .ok (.iinc 4 1, 3) := by decide +kernel
theorem d_Mo_layOut_125 : decode (am_Mof y_Mo_layOut).1 125 = .ok (.goto (-60), 3) := by decide +kernel
theorem d_Mo_layOut_128 : decode (am_Mof y_Mo_layOut).1 128 = .ok (.aload_n 0, 1) := by decide +kernel
theorem d_Mo_layOut_129 : decode (am_Mof y_Mo_layOut).1 129 = .ok (.getfield 13, 3) := by decide +kernel
theorem d_Mo_layOut_132 : decode (am_Mof y_Mo_layOut).1 132 = .ok (.iconst 4, 1) := by decide +kernel
theorem d_Mo_layOut_133 : decode (am_Mof y_Mo_layOut).1 133 = .ok (.iload_n 2, 1) := by decide +kernel
theorem d_Mo_layOut_134 : decode (am_Mof y_Mo_layOut).1 134 = .ok (.imul, 1) := by decide +kernel
theorem d_Mo_layOut_135 : decode (am_Mof y_Mo_layOut).1 135 = .ok (.iload_n 1, 1) := by decide +kernel
theorem d_Mo_layOut_136 : decode (am_Mof y_Mo_layOut).1 136 = .ok (.iadd, 1) := by decide +kernel
theorem d_Mo_layOut_137 : decode (am_Mof y_Mo_layOut).1 137 = .ok (.baload, 1) := by decide +kernel
theorem d_Mo_layOut_138 : decode (am_Mof y_Mo_layOut).1 138 = .ok (.ifCond .eq 18, 3) := by decide +kernel
theorem d_Mo_layOut_141 : decode (am_Mof y_Mo_layOut).1 141 = .ok (.aload_n 0, 1) := by decide +kernel
theorem d_Mo_layOut_142 : decode (am_Mof y_Mo_layOut).1 142 = .ok (.bipush 6, 2) := by decide +kernel
theorem d_Mo_layOut_144 : decode (am_Mof y_Mo_layOut).1 144 = .ok (.iload_n 2, 1) := by decide +kernel
theorem d_Mo_layOut_145 : decode (am_Mof y_Mo_layOut).1 145 = .ok (.imul, 1) := by decide +kernel
theorem d_Mo_layOut_146 : decode (am_Mof y_Mo_layOut).1 146 = .ok (.iconst 5, 1) := by decide +kernel
theorem d_Mo_layOut_147 : decode (am_Mof y_Mo_layOut).1 147 = .ok (.iadd, 1) := by decide +kernel
theorem d_Mo_layOut_148 : decode (am_Mof y_Mo_layOut).1 148 = .ok (.lconst 1, 1) := by decide +kernel
theorem d_Mo_layOut_149 : decode (am_Mof y_Mo_layOut).1 149 = .ok (.lconst 1, 1) := by decide +kernel
theorem d_Mo_layOut_150 : decode (am_Mof y_Mo_layOut).1 150 = .ok (.invokevirtual 118, 3) := by decide +kernel
theorem d_Mo_layOut_153 : decode (am_Mof y_Mo_layOut).1 153 = .ok (.goto 39, 3) := by decide +kernel
theorem d_Mo_layOut_156 : decode (am_Mof y_Mo_layOut).1 156 = .ok (.iload_n 3, 1) := by decide +kernel
theorem d_Mo_layOut_157 : decode (am_Mof y_Mo_layOut).1 157 = .ok (.ifCond .ne 35, 3) := by decide +kernel
theorem d_Mo_layOut_160 : decode (am_Mof y_Mo_layOut).1 160 = .ok (.aload_n 0, 1) := by decide +kernel
theorem d_Mo_layOut_161 : decode (am_Mof y_Mo_layOut).1 161 = .ok (.getfield 17, 3) := by decide +kernel
theorem d_Mo_layOut_164 : decode (am_Mof y_Mo_layOut).1 164 = .ok (.iload_n 2, 1) := by decide +kernel
theorem d_Mo_layOut_165 : decode (am_Mof y_Mo_layOut).1 165 = .ok (.baload, 1) := by decide +kernel
theorem d_Mo_layOut_166 : decode (am_Mof y_Mo_layOut).1 166 = .ok (.ifCond .eq 26, 3) := by decide +kernel
theorem d_Mo_layOut_169 : decode (am_Mof y_Mo_layOut).1 169 = .ok (.aload_n 0, 1) := by decide +kernel
theorem d_Mo_layOut_170 : decode (am_Mof y_Mo_layOut).1 170 = .ok (.bipush 6, 2) := by decide +kernel
theorem d_Mo_layOut_172 : decode (am_Mof y_Mo_layOut).1 172 = .ok (.iload_n 2, 1) := by decide +kernel
theorem d_Mo_layOut_173 : decode (am_Mof y_Mo_layOut).1 173 = .ok (.imul, 1) := by decide +kernel
theorem d_Mo_layOut_174 : decode (am_Mof y_Mo_layOut).1 174 = .ok (.iconst 5, 1) := by decide +kernel
theorem d_Mo_layOut_175 : decode (am_Mof y_Mo_layOut).1 175 = .ok (.iadd, 1) := by decide +kernel
theorem d_Mo_layOut_176 : decode (am_Mof y_Mo_layOut).1 176 = .ok (.bipush 10, 2) := by decide +kernel
theorem d_Mo_layOut_178 : decode (am_Mof y_Mo_layOut).1 178 = .ok (.aload_n 0, 1) := by decide +kernel
theorem d_Mo_layOut_179 : decode (am_Mof y_Mo_layOut).1 179 = .ok (.getfield 20, 3) := by decide +kernel
theorem d_Mo_layOut_182 : decode (am_Mof y_Mo_layOut).1 182 = .ok (.iload_n 2, 1) := by decide +kernel
theorem d_Mo_layOut_183 : decode (am_Mof y_Mo_layOut).1 183 = .ok (.iaload, 1) := by decide +kernel
theorem d_Mo_layOut_184 : decode (am_Mof y_Mo_layOut).1 184 = .ok (.isub, 1) := by decide +kernel
theorem d_Mo_layOut_185 : decode (am_Mof y_Mo_layOut).1 185 = .ok (.i2l, 1) := by decide +kernel
theorem d_Mo_layOut_186 : decode (am_Mof y_Mo_layOut).1 186 = .ok (.ldc2_w 80, 3) := by decide +kernel
theorem d_Mo_layOut_189 : decode (am_Mof y_Mo_layOut).1 189 = .ok (.invokevirtual 118, 3) := by decide +kernel
theorem d_Mo_layOut_192 : decode (am_Mof y_Mo_layOut).1 192 = .ok (.iinc 2 1, 3) := by decide +kernel
theorem d_Mo_layOut_195 : decode (am_Mof y_Mo_layOut).1 195 = .ok (.goto (-193), 3) := by decide +kernel
theorem d_Mo_layOut_198 : decode (am_Mof y_Mo_layOut).1 198 = .ok (.return_, 1) := by decide +kernel
theorem d_Mo_put_0 : decode (am_Mof y_Mo_put).1 0 = .ok (.lload_n 2, 1) := by decide +kernel
theorem d_Mo_put_1 : decode (am_Mof y_Mo_put).1 1 = .ok (.lload 4, 2) := by decide +kernel
theorem d_Mo_put_3 : decode (am_Mof y_Mo_put).1 3 = .ok (.invokestatic 114, 3) := by decide +kernel
theorem d_Mo_put_6 : decode (am_Mof y_Mo_put).1 6 = .ok (.lstore 6, 2) := by decide +kernel
theorem d_Mo_put_8 : decode (am_Mof y_Mo_put).1 8 = .ok (.aload_n 0, 1) := by decide +kernel
theorem d_Mo_put_9 : decode (am_Mof y_Mo_put).1 9 = .ok (.getfield 66, 3) := by decide +kernel
theorem d_Mo_put_12 : decode (am_Mof y_Mo_put).1 12 = .ok (.iload_n 1, 1) := by decide +kernel
theorem d_Mo_put_13 : decode (am_Mof y_Mo_put).1 13 = .ok (.lload 4, 2) := by decide +kernel
theorem d_Mo_put_15 : decode (am_Mof y_Mo_put).1 15 = .ok (.lconst 0, 1) := by decide +kernel
theorem d_Mo_put_16 : decode (am_Mof y_Mo_put).1 16 = .ok (.lcmp, 1) := by decide +kernel
theorem d_Mo_put_17 : decode (am_Mof y_Mo_put).1 17 = .ok (.ifCond .ge 11, 3) := by decide +kernel
theorem d_Mo_put_20 : decode (am_Mof y_Mo_put).1 20 = .ok (.lload_n 2, 1) := by decide +kernel
theorem d_Mo_put_21 : decode (am_Mof y_Mo_put).1 21 = .ok (.lload 6, 2) := by decide +kernel
theorem d_Mo_put_23 : decode (am_Mof y_Mo_put).1 23 = .ok (.ldiv, 1) := by decide +kernel
theorem d_Mo_put_24 : decode (am_Mof y_Mo_put).1 24 = .ok (.lneg, 1) := by decide +kernel
theorem d_Mo_put_25 : decode (am_Mof y_Mo_put).1 25 = .ok (.goto 7, 3) := by decide +kernel
theorem d_Mo_put_28 : decode (am_Mof y_Mo_put).1 28 = .ok (.lload_n 2, 1) := by decide +kernel
theorem d_Mo_put_29 : decode (am_Mof y_Mo_put).1 29 = .ok (.lload 6, 2) := by decide +kernel
theorem d_Mo_put_31 : decode (am_Mof y_Mo_put).1 31 = .ok (.ldiv, 1) := by decide +kernel
theorem d_Mo_put_32 : decode (am_Mof y_Mo_put).1 32 = .ok (.lastore, 1) := by decide +kernel
theorem d_Mo_put_33 : decode (am_Mof y_Mo_put).1 33 = .ok (.aload_n 0, 1) := by decide +kernel
theorem d_Mo_put_34 : decode (am_Mof y_Mo_put).1 34 = .ok (.getfield 69, 3) := by decide +kernel
theorem d_Mo_put_37 : decode (am_Mof y_Mo_put).1 37 = .ok (.iload_n 1, 1) := by decide +kernel
theorem d_Mo_put_38 : decode (am_Mof y_Mo_put).1 38 = .ok (.lload 4, 2) := by decide +kernel
theorem d_Mo_put_40 : decode (am_Mof y_Mo_put).1 40 = .ok (.lconst 0, 1) := by decide +kernel
theorem d_Mo_put_41 : decode (am_Mof y_Mo_put).1 41 = .ok (.lcmp, 1) := by decide +kernel
theorem d_Mo_put_42 : decode (am_Mof y_Mo_put).1 42 = .ok (.ifCond .ge 12, 3) := by decide +kernel
theorem d_Mo_put_45 : decode (am_Mof y_Mo_put).1 45 = .ok (.lload 4, 2) := by decide +kernel
theorem d_Mo_put_47 : decode (am_Mof y_Mo_put).1 47 = .ok (.lload 6, 2) := by decide +kernel
theorem d_Mo_put_49 : decode (am_Mof y_Mo_put).1 49 = .ok (.ldiv, 1) := by decide +kernel
theorem d_Mo_put_50 : decode (am_Mof y_Mo_put).1 50 = .ok (.lneg, 1) := by decide +kernel
theorem d_Mo_put_51 : decode (am_Mof y_Mo_put).1 51 = .ok (.goto 8, 3) := by decide +kernel
theorem d_Mo_put_54 : decode (am_Mof y_Mo_put).1 54 = .ok (.lload 4, 2) := by decide +kernel
theorem d_Mo_put_56 : decode (am_Mof y_Mo_put).1 56 = .ok (.lload 6, 2) := by decide +kernel
theorem d_Mo_put_58 : decode (am_Mof y_Mo_put).1 58 = .ok (.ldiv, 1) := by decide +kernel
theorem d_Mo_put_59 : decode (am_Mof y_Mo_put).1 59 = .ok (.lastore, 1) := by decide +kernel
theorem d_Mo_put_60 : decode (am_Mof y_Mo_put).1 60 = .ok (.aload_n 0, 1) := by decide +kernel
theorem d_Mo_put_61 : decode (am_Mof y_Mo_put).1 61 = .ok (.getfield 69, 3) := by decide +kernel
theorem d_Mo_put_64 : decode (am_Mof y_Mo_put).1 64 = .ok (.iload_n 1, 1) := by decide +kernel
theorem d_Mo_put_65 : decode (am_Mof y_Mo_put).1 65 = .ok (.laload, 1) := by decide +kernel
theorem d_Mo_put_66 : decode (am_Mof y_Mo_put).1 66 = .ok (.lconst 0, 1) := by decide +kernel
theorem d_Mo_put_67 : decode (am_Mof y_Mo_put).1 67 = .ok (.lcmp, 1) := by decide +kernel
theorem d_Mo_put_68 : decode (am_Mof y_Mo_put).1 68 = .ok (.ifCond .ge 29, 3) := by decide +kernel
theorem d_Mo_put_71 : decode (am_Mof y_Mo_put).1 71 = .ok (.aload_n 0, 1) := by decide +kernel
theorem d_Mo_put_72 : decode (am_Mof y_Mo_put).1 72 = .ok (.getfield 66, 3) := by decide +kernel
theorem d_Mo_put_75 : decode (am_Mof y_Mo_put).1 75 = .ok (.iload_n 1, 1) := by decide +kernel
theorem d_Mo_put_76 : decode (am_Mof y_Mo_put).1 76 = .ok (.aload_n 0, 1) := by decide +kernel
theorem d_Mo_put_77 : decode (am_Mof y_Mo_put).1 77 = .ok (.getfield 66, 3) := by decide +kernel
theorem d_Mo_put_80 : decode (am_Mof y_Mo_put).1 80 = .ok (.iload_n 1, 1) := by decide +kernel
theorem d_Mo_put_81 : decode (am_Mof y_Mo_put).1 81 = .ok (.laload, 1) := by decide +kernel
theorem d_Mo_put_82 : decode (am_Mof y_Mo_put).1 82 = .ok (.lneg, 1) := by decide +kernel
theorem d_Mo_put_83 : decode (am_Mof y_Mo_put).1 83 = .ok (.lastore, 1) := by decide +kernel
theorem d_Mo_put_84 : decode (am_Mof y_Mo_put).1 84 = .ok (.aload_n 0, 1) := by decide +kernel
theorem d_Mo_put_85 : decode (am_Mof y_Mo_put).1 85 = .ok (.getfield 69, 3) := by decide +kernel
theorem d_Mo_put_88 : decode (am_Mof y_Mo_put).1 88 = .ok (.iload_n 1, 1) := by decide +kernel
theorem d_Mo_put_89 : decode (am_Mof y_Mo_put).1 89 = .ok (.aload_n 0, 1) := by decide +kernel
theorem d_Mo_put_90 : decode (am_Mof y_Mo_put).1 90 = .ok (.getfield 69, 3) := by decide +kernel
theorem d_Mo_put_93 : decode (am_Mof y_Mo_put).1 93 = .ok (.iload_n 1, 1) := by decide +kernel
theorem d_Mo_put_94 : decode (am_Mof y_Mo_put).1 94 = .ok (.laload, 1) := by decide +kernel
theorem d_Mo_put_95 : decode (am_Mof y_Mo_put).1 95 = .ok (.lneg, 1) := by decide +kernel
theorem d_Mo_put_96 : decode (am_Mof y_Mo_put).1 96 = .ok (.lastore, 1) := by decide +kernel
theorem d_Mo_put_97 : decode (am_Mof y_Mo_put).1 97 = .ok (.return_, 1) := by decide +kernel
theorem d_Mo_common_0 : decode (am_Mof y_Mo_common).1 0 = .ok (.lload_n 0, 1) := by decide +kernel
theorem d_Mo_common_1 : decode (am_Mof y_Mo_common).1 1 = .ok (.lconst 0, 1) := by decide +kernel
theorem d_Mo_common_2 : decode (am_Mof y_Mo_common).1 2 = .ok (.lcmp, 1) := by decide +kernel
theorem d_Mo_common_3 : decode (am_Mof y_Mo_common).1 3 = .ok (.ifCond .ge 8, 3) := by decide +kernel
theorem d_Mo_common_6 : decode (am_Mof y_Mo_common).1 6 = .ok (.lload_n 0, 1) := by decide +kernel
theorem d_Mo_common_7 : decode (am_Mof y_Mo_common).1 7 = .ok (.lneg, 1) := by decide +kernel
theorem d_Mo_common_8 : decode (am_Mof y_Mo_common).1 8 = .ok (.goto 4, 3) := by decide +kernel
theorem d_Mo_common_11 : decode (am_Mof y_Mo_common).1 11 = .ok (.lload_n 0, 1) := by decide +kernel
theorem d_Mo_common_12 : decode (am_Mof y_Mo_common).1 12 = .ok (.lstore 4, 2) := by decide +kernel
theorem d_Mo_common_14 : decode (am_Mof y_Mo_common).1 14 = .ok (.lload_n 2, 1) := by decide +kernel
theorem d_Mo_common_15 : decode (am_Mof y_Mo_common).1 15 = .ok (.lstore 6, 2) := by decide +kernel
theorem d_Mo_common_17 : decode (am_Mof y_Mo_common).1 17 = .ok (.lload 4, 2) := by decide +kernel
theorem d_Mo_common_19 : decode (am_Mof y_Mo_common).1 19 = .ok (.lconst 0, 1) := by decide +kernel
theorem d_Mo_common_20 : decode (am_Mof y_Mo_common).1 20 = .ok (.lcmp, 1) := by decide +kernel
theorem d_Mo_common_21 : decode (am_Mof y_Mo_common).1 21 = .ok (.ifCond .eq 21, 3) := by decide +kernel
theorem d_Mo_common_24 : decode (am_Mof y_Mo_common).1 24 = .ok (.lload 6, 2) := by decide +kernel
theorem d_Mo_common_26 : decode (am_Mof y_Mo_common).1 26 = .ok (.lload 4, 2) := by decide +kernel
theorem d_Mo_common_28 : decode (am_Mof y_Mo_common).1 28 = .ok (.lrem, 1) := by decide +kernel
theorem d_Mo_common_29 : decode (am_Mof y_Mo_common).1 29 = .ok (.lstore 8, 2) := by decide +kernel
theorem d_Mo_common_31 : decode (am_Mof y_Mo_common).1 31 = .ok (.lload 4, 2) := by decide +kernel
theorem d_Mo_common_33 : decode (am_Mof y_Mo_common).1 33 = .ok (.lstore 6, 2) := by decide +kernel
theorem d_Mo_common_35 : decode (am_Mof y_Mo_common).1 35 = .ok (.lload 8, 2) := by decide +kernel
theorem d_Mo_common_37 : decode (am_Mof y_Mo_common).1 37 = .ok (.lstore 4, 2) := by decide +kernel
theorem d_Mo_common_39 : decode (am_Mof y_Mo_common).1 39 = .ok (.goto (-22), 3) := by decide +kernel
theorem d_Mo_common_42 : decode (am_Mof y_Mo_common).1 42 = .ok (.lload 6, 2) := by decide +kernel
theorem d_Mo_common_44 : decode (am_Mof y_Mo_common).1 44 = .ok (.lreturn, 1) := by decide +kernel
theorem d_Mo_eliminate_0 : decode (am_Mof y_Mo_eliminate).1 0 = .ok (.iconst 0, 1) := by decide +kernel
theorem d_Mo_eliminate_1 : decode (am_Mof y_Mo_eliminate).1 1 = .ok (.istore_n 1, 1) := by decide +kernel
theorem d_Mo_eliminate_2 : decode (am_Mof y_Mo_eliminate).1 2 = .ok (.iload_n 1, 1) := by decide +kernel
theorem d_Mo_eliminate_3 : decode (am_Mof y_Mo_eliminate).1 3 = .ok (.aload_n 0, 1) := by decide +kernel
theorem d_Mo_eliminate_4 : decode (am_Mof y_Mo_eliminate).1 4 = .ok (.getfield 72, 3) := by decide +kernel
theorem d_Mo_eliminate_7 : decode (am_Mof y_Mo_eliminate).1 7 = .ok (.if_icmp .ge 228, 3) := by decide +kernel
theorem d_Mo_eliminate_10 : decode (am_Mof y_Mo_eliminate).1 10 = .ok (.iload_n 1, 1) := by decide +kernel
theorem d_Mo_eliminate_11 : decode (am_Mof y_Mo_eliminate).1 11 = .ok (.istore_n 2, 1) := by decide +kernel
theorem d_Mo_eliminate_12 : decode (am_Mof y_Mo_eliminate).1 12 = .ok (.aload_n 0, 1) := by decide +kernel
theorem d_Mo_eliminate_13 : decode (am_Mof y_Mo_eliminate).1 13 = .ok (.getfield 66, 3) := by decide +kernel
theorem d_Mo_eliminate_16 : decode (am_Mof y_Mo_eliminate).1 16 = .ok (.bipush 6, 2) := by decide +kernel
theorem d_Mo_eliminate_18 : decode (am_Mof y_Mo_eliminate).1 18 = .ok (.iload_n 2, 1) := by decide +kernel
theorem d_Mo_eliminate_19 : decode (am_Mof y_Mo_eliminate).1 19 = .ok (.imul, 1) := by decide +kernel
theorem d_Mo_eliminate_20 : decode (am_Mof y_Mo_eliminate).1 20 = .ok (.iload_n 1, 1) := by decide +kernel
theorem d_Mo_eliminate_21 : decode (am_Mof y_Mo_eliminate).1 21 = .ok (.iadd, 1) := by decide +kernel
theorem d_Mo_eliminate_22 : decode (am_Mof y_Mo_eliminate).1 22 = .ok (.laload, 1) := by decide +kernel
theorem d_Mo_eliminate_23 : decode (am_Mof y_Mo_eliminate).1 23 = .ok (.lconst 0, 1) := by decide +kernel
theorem d_Mo_eliminate_24 : decode (am_Mof y_Mo_eliminate).1 24 = .ok (.lcmp, 1) := by decide +kernel
theorem d_Mo_eliminate_25 : decode (am_Mof y_Mo_eliminate).1 25 = .ok (.ifCond .ne 9, 3) := by decide +kernel
theorem d_Mo_eliminate_28 : decode (am_Mof y_Mo_eliminate).1 28 = .ok (.iinc 2 1, 3) := by decide +kernel
theorem d_Mo_eliminate_31 : decode (am_Mof y_Mo_eliminate).1 31 = .ok (.goto (-19), 3) := by decide +kernel
theorem d_Mo_eliminate_34 : decode (am_Mof y_Mo_eliminate).1 34 = .ok (.aload_n 0, 1) := by decide +kernel
theorem d_Mo_eliminate_35 : decode (am_Mof y_Mo_eliminate).1 35 = .ok (.iload_n 2, 1) := by decide +kernel
theorem d_Mo_eliminate_36 : decode (am_Mof y_Mo_eliminate).1 36 = .ok (.iload_n 1, 1) := by decide +kernel
theorem d_Mo_eliminate_37 : decode (am_Mof y_Mo_eliminate).1 37 = .ok (.invokevirtual 122, 3) := by decide +kernel
theorem d_Mo_eliminate_40 : decode (am_Mof y_Mo_eliminate).1 40 = .ok (.iconst 0, 1) := by decide +kernel
theorem d_Mo_eliminate_41 : decode (am_Mof y_Mo_eliminate).1 41 = .ok (.istore_n 3, 1) := by decide +kernel
theorem d_Mo_eliminate_42 : decode (am_Mof y_Mo_eliminate).1 42 = .ok (.iload_n 3, 1) := by decide +kernel
theorem d_Mo_eliminate_43 : decode (am_Mof y_Mo_eliminate).1 43 = .ok (.aload_n 0, 1) := by decide +kernel
theorem d_Mo_eliminate_44 : decode (am_Mof y_Mo_eliminate).1 44 = .ok (.getfield 72, 3) := by decide +kernel
theorem d_Mo_eliminate_47 : decode (am_Mof y_Mo_eliminate).1 47 = .ok (.if_icmp .ge 182, 3) := by decide +kernel
theorem d_Mo_eliminate_50 : decode (am_Mof y_Mo_eliminate).1 50 = .ok (.iload_n 3, 1) := by decide +kernel
theorem d_Mo_eliminate_51 : decode (am_Mof y_Mo_eliminate).1 51 = .ok (.iload_n 1, 1) := by decide +kernel
theorem d_Mo_eliminate_52 : decode (am_Mof y_Mo_eliminate).1 52 = .ok (.if_icmp .eq 171, 3) := by decide +kernel
theorem d_Mo_eliminate_55 : decode (am_Mof y_Mo_eliminate).1 55 = .ok (.aload_n 0, 1) := by decide +kernel
theorem d_Mo_eliminate_56 : decode (am_Mof y_Mo_eliminate).1 56 = .ok (.getfield 66, 3) := by decide +kernel
theorem d_Mo_eliminate_59 : decode (am_Mof y_Mo_eliminate).1 59 = .ok (.bipush 6, 2) := by decide +kernel
theorem d_Mo_eliminate_61 : decode (am_Mof y_Mo_eliminate).1 61 = .ok (.iload_n 3, 1) := by decide +kernel
theorem d_Mo_eliminate_62 : decode (am_Mof y_Mo_eliminate).1 62 = .ok (.imul, 1) := by decide +kernel
theorem d_Mo_eliminate_63 : decode (am_Mof y_Mo_eliminate).1 63 = .ok (.iload_n 1, 1) := by decide +kernel
theorem d_Mo_eliminate_64 : decode (am_Mof y_Mo_eliminate).1 64 = .ok (.iadd, 1) := by decide +kernel
theorem d_Mo_eliminate_65 : decode (am_Mof y_Mo_eliminate).1 65 = .ok (.laload, 1) := by decide +kernel
theorem d_Mo_eliminate_66 : decode (am_Mof y_Mo_eliminate).1 66 = .ok (.lconst 0, 1) := by decide +kernel
theorem d_Mo_eliminate_67 : decode (am_Mof y_Mo_eliminate).1 67 = .ok (.lcmp, 1) := by decide +kernel
theorem d_Mo_eliminate_68 : decode (am_Mof y_Mo_eliminate).1 68 = .ok (.ifCond .eq 155, 3) := by decide +kernel
theorem d_Mo_eliminate_71 : decode (am_Mof y_Mo_eliminate).1 71 = .ok (.aload_n 0, 1) := by decide +kernel
theorem d_Mo_eliminate_72 : decode (am_Mof y_Mo_eliminate).1 72 = .ok (.getfield 66, 3) := by decide +kernel
theorem d_Mo_eliminate_75 : decode (am_Mof y_Mo_eliminate).1 75 = .ok (.bipush 6, 2) := by decide +kernel
theorem d_Mo_eliminate_77 : decode (am_Mof y_Mo_eliminate).1 77 = .ok (.iload_n 3, 1) := by decide +kernel
theorem d_Mo_eliminate_78 : decode (am_Mof y_Mo_eliminate).1 78 = .ok (.imul, 1) := by decide +kernel
theorem d_Mo_eliminate_79 : decode (am_Mof y_Mo_eliminate).1 79 = .ok (.iload_n 1, 1) := by decide +kernel
theorem d_Mo_eliminate_80 : decode (am_Mof y_Mo_eliminate).1 80 = .ok (.iadd, 1) := by decide +kernel
theorem d_Mo_eliminate_81 : decode (am_Mof y_Mo_eliminate).1 81 = .ok (.laload, 1) := by decide +kernel
theorem d_Mo_eliminate_82 : decode (am_Mof y_Mo_eliminate).1 82 = .ok (.aload_n 0, 1) := by decide +kernel
theorem d_Mo_eliminate_83 : decode (am_Mof y_Mo_eliminate).1 83 = .ok (.getfield 69, 3) := by decide +kernel
theorem d_Mo_eliminate_86 : decode (am_Mof y_Mo_eliminate).1 86 = .ok (.bipush 6, 2) := by decide +kernel
theorem d_Mo_eliminate_88 : decode (am_Mof y_Mo_eliminate).1 88 = .ok (.iload_n 1, 1) := by decide +kernel
theorem d_Mo_eliminate_89 : decode (am_Mof y_Mo_eliminate).1 89 = .ok (.imul, 1) := by decide +kernel
theorem d_Mo_eliminate_90 : decode (am_Mof y_Mo_eliminate).1 90 = .ok (.iload_n 1, 1) := by decide +kernel
theorem d_Mo_eliminate_91 : decode (am_Mof y_Mo_eliminate).1 91 = .ok (.iadd, 1) := by decide +kernel
theorem d_Mo_eliminate_92 : decode (am_Mof y_Mo_eliminate).1 92 = .ok (.laload, 1) := by decide +kernel
theorem d_Mo_eliminate_93 : decode (am_Mof y_Mo_eliminate).1 93 = .ok (.lmul, 1) := by decide +kernel
theorem d_Mo_eliminate_94 : decode (am_Mof y_Mo_eliminate).1 94 = .ok (.lstore 4, 2) := by decide +kernel
theorem d_Mo_eliminate_96 : decode (am_Mof y_Mo_eliminate).1 96 = .ok (.aload_n 0, 1) := by decide +kernel
theorem d_Mo_eliminate_97 : decode (am_Mof y_Mo_eliminate).1 97 = .ok (.getfield 69, 3) := by decide +kernel
theorem d_Mo_eliminate_100 : decode (am_Mof y_Mo_eliminate).1 100 = .ok (.bipush 6, 2) := by decide +kernel
theorem d_Mo_eliminate_102 : decode (am_Mof y_Mo_eliminate).1 102 = .ok (.iload_n 3, 1) := by decide +kernel
theorem d_Mo_eliminate_103 : decode (am_Mof y_Mo_eliminate).1 103 = .ok (.imul, 1) := by decide +kernel
theorem d_Mo_eliminate_104 : decode (am_Mof y_Mo_eliminate).1 104 = .ok (.iload_n 1, 1) := by decide +kernel
theorem d_Mo_eliminate_105 : decode (am_Mof y_Mo_eliminate).1 105 = .ok (.iadd, 1) := by decide +kernel
theorem d_Mo_eliminate_106 : decode (am_Mof y_Mo_eliminate).1 106 = .ok (.laload, 1) := by decide +kernel
theorem d_Mo_eliminate_107 : decode (am_Mof y_Mo_eliminate).1 107 = .ok (.aload_n 0, 1) := by decide +kernel
theorem d_Mo_eliminate_108 : decode (am_Mof y_Mo_eliminate).1 108 = .ok (.getfield 66, 3) := by decide +kernel
theorem d_Mo_eliminate_111 : decode (am_Mof y_Mo_eliminate).1 111 = .ok (.bipush 6, 2) := by decide +kernel
theorem d_Mo_eliminate_113 : decode (am_Mof y_Mo_eliminate).1 113 = .ok (.iload_n 1, 1) := by decide +kernel
theorem d_Mo_eliminate_114 : decode (am_Mof y_Mo_eliminate).1 114 = .ok (.imul, 1) := by decide +kernel
theorem d_Mo_eliminate_115 : decode (am_Mof y_Mo_eliminate).1 115 = .ok (.iload_n 1, 1) := by decide +kernel
theorem d_Mo_eliminate_116 : decode (am_Mof y_Mo_eliminate).1 116 = .ok (.iadd, 1) := by decide +kernel
theorem d_Mo_eliminate_117 : decode (am_Mof y_Mo_eliminate).1 117 = .ok (.laload, 1) := by decide +kernel
theorem d_Mo_eliminate_118 : decode (am_Mof y_Mo_eliminate).1 118 = .ok (.lmul, 1) := by decide +kernel
theorem d_Mo_eliminate_119 : decode (am_Mof y_Mo_eliminate).1 119 = .ok (.lstore 6, 2) := by decide +kernel
theorem d_Mo_eliminate_121 : decode (am_Mof y_Mo_eliminate).1 121 = .ok (.lload 4, 2) := by decide +kernel
theorem d_Mo_eliminate_123 : decode (am_Mof y_Mo_eliminate).1 123 = .ok (.lload 6, 2) := by decide +kernel
theorem d_Mo_eliminate_125 : decode (am_Mof y_Mo_eliminate).1 125 = .ok (.lconst 0, 1) := by decide +kernel
theorem d_Mo_eliminate_126 : decode (am_Mof y_Mo_eliminate).1 126 = .ok (.lcmp, 1) := by decide +kernel
theorem d_Mo_eliminate_127 : decode (am_Mof y_Mo_eliminate).1 127 = .ok (.ifCond .ge 9, 3) := by decide +kernel
theorem d_Mo_eliminate_130 : decode (am_Mof y_Mo_eliminate).1 130 = .ok (.lload 6, 2) := by decide +kernel
theorem d_Mo_eliminate_132 : decode (am_Mof y_Mo_eliminate).1 132 = .ok (.lneg, 1) := by decide +kernel
theorem d_Mo_eliminate_133 : decode (am_Mof y_Mo_eliminate).1 133 = .ok (.goto 5, 3) := by decide +kernel
theorem d_Mo_eliminate_136 : decode (am_Mof y_Mo_eliminate).1 136 = .ok (.lload 6, 2) := by decide +kernel
theorem d_Mo_eliminate_138 : decode (am_Mof y_Mo_eliminate).1 138 = .ok (.invokestatic 114, 3) := by decide +kernel
theorem d_Mo_eliminate_141 : decode (am_Mof y_Mo_eliminate).1 141 = .ok (.lstore 8, 2) := by decide +kernel
theorem d_Mo_eliminate_143 : decode (am_Mof y_Mo_eliminate).1 143 = .ok (.lload 6, 2) := by decide +kernel
theorem d_Mo_eliminate_145 : decode (am_Mof y_Mo_eliminate).1 145 = .ok (.lconst 0, 1) := by decide +kernel
theorem d_Mo_eliminate_146 : decode (am_Mof y_Mo_eliminate).1 146 = .ok (.lcmp, 1) := by decide +kernel
theorem d_Mo_eliminate_147 : decode (am_Mof y_Mo_eliminate).1 147 = .ok (.ifCond .ge 12, 3) := by decide +kernel
theorem d_Mo_eliminate_150 : decode (am_Mof y_Mo_eliminate).1 150 = .ok (.lload 4, 2) := by decide +kernel
theorem d_Mo_eliminate_152 : decode (am_Mof y_Mo_eliminate).1 152 = .ok (.lneg, 1) := by decide +kernel
theorem d_Mo_eliminate_153 : decode (am_Mof y_Mo_eliminate).1 153 = .ok (.lload 8, 2) := by decide +kernel
theorem d_Mo_eliminate_155 : decode (am_Mof y_Mo_eliminate).1 155 = .ok (.ldiv, 1) := by decide +kernel
theorem d_Mo_eliminate_156 : decode (am_Mof y_Mo_eliminate).1 156 = .ok (.goto 8, 3) := by decide +kernel
theorem d_Mo_eliminate_159 : decode (am_Mof y_Mo_eliminate).1 159 = .ok (.lload 4, 2) := by decide +kernel
theorem d_Mo_eliminate_161 : decode (am_Mof y_Mo_eliminate).1 161 = .ok (.lload 8, 2) := by decide +kernel
theorem d_Mo_eliminate_163 : decode (am_Mof y_Mo_eliminate).1 163 = .ok (.ldiv, 1) := by decide +kernel
theorem d_Mo_eliminate_164 : decode (am_Mof y_Mo_eliminate).1 164 = .ok (.lstore 4, 2) := by decide +kernel
theorem d_Mo_eliminate_166 : decode (am_Mof y_Mo_eliminate).1 166 = .ok (.lload 6, 2) := by decide +kernel
theorem d_Mo_eliminate_168 : decode (am_Mof y_Mo_eliminate).1 168 = .ok (.lconst 0, 1) := by decide +kernel
theorem d_Mo_eliminate_169 : decode (am_Mof y_Mo_eliminate).1 169 = .ok (.lcmp, 1) := by decide +kernel
theorem d_Mo_eliminate_170 : decode (am_Mof y_Mo_eliminate).1 170 = .ok (.ifCond .ge 9, 3) := by decide +kernel
theorem d_Mo_eliminate_173 : decode (am_Mof y_Mo_eliminate).1 173 = .ok (.lload 6, 2) := by decide +kernel
theorem d_Mo_eliminate_175 : decode (am_Mof y_Mo_eliminate).1 175 = .ok (.lneg, 1) := by decide +kernel
theorem d_Mo_eliminate_176 : decode (am_Mof y_Mo_eliminate).1 176 = .ok (.goto 5, 3) := by decide +kernel
theorem d_Mo_eliminate_179 : decode (am_Mof y_Mo_eliminate).1 179 = .ok (.lload 6, 2) := by decide +kernel
theorem d_Mo_eliminate_181 : decode (am_Mof y_Mo_eliminate).1 181 = .ok (.lload 8, 2) := by decide +kernel
theorem d_Mo_eliminate_183 : decode (am_Mof y_Mo_eliminate).1 183 = .ok (.ldiv, 1) := by decide +kernel
theorem d_Mo_eliminate_184 : decode (am_Mof y_Mo_eliminate).1 184 = .ok (.lstore 6, 2) := by decide +kernel
theorem d_Mo_eliminate_186 : decode (am_Mof y_Mo_eliminate).1 186 = .ok (.iconst 0, 1) := by decide +kernel
theorem d_Mo_eliminate_187 : decode (am_Mof y_Mo_eliminate).1 187 = .ok (.istore 10, 2) := by decide +kernel
theorem d_Mo_eliminate_189 : decode (am_Mof y_Mo_eliminate).1 189 = .ok (.iload 10, 2) := by decide +kernel
theorem d_Mo_eliminate_191 : decode (am_Mof y_Mo_eliminate).1 191 = .ok (.iconst 5, 1) := by decide +kernel
theorem d_Mo_eliminate_192 : decode (am_Mof y_Mo_eliminate).1 192 = .ok (.if_icmp .gt 31, 3) := by decide +kernel
theorem d_Mo_eliminate_195 : decode (am_Mof y_Mo_eliminate).1 195 = .ok (.aload_n 0, 1) := by decide +kernel
theorem d_Mo_eliminate_196 : decode (am_Mof y_Mo_eliminate).1 196 = .ok (.bipush 6, 2) := by decide +kernel
theorem d_Mo_eliminate_198 : decode (am_Mof y_Mo_eliminate).1 198 = .ok (.iload_n 3, 1) := by decide +kernel
theorem d_Mo_eliminate_199 : decode (am_Mof y_Mo_eliminate).1 199 = .ok (.imul, 1) := by decide +kernel
theorem d_Mo_eliminate_200 : decode (am_Mof y_Mo_eliminate).1 200 = .ok (.iload 10, 2) := by decide +kernel
theorem d_Mo_eliminate_202 : decode (am_Mof y_Mo_eliminate).1 202 = .ok (.iadd, 1) := by decide +kernel
theorem d_Mo_eliminate_203 : decode (am_Mof y_Mo_eliminate).1 203 = .ok (.lload 4, 2) := by decide +kernel
theorem d_Mo_eliminate_205 : decode (am_Mof y_Mo_eliminate).1 205 = .ok (.lload 6, 2) := by decide +kernel
theorem d_Mo_eliminate_207 : decode (am_Mof y_Mo_eliminate).1 207 = .ok (.bipush 6, 2) := by decide +kernel
theorem d_Mo_eliminate_209 : decode (am_Mof y_Mo_eliminate).1 209 = .ok (.iload_n 1, 1) := by decide +kernel
theorem d_Mo_eliminate_210 : decode (am_Mof y_Mo_eliminate).1 210 = .ok (.imul, 1) := by decide +kernel
theorem d_Mo_eliminate_211 : decode (am_Mof y_Mo_eliminate).1 211 = .ok (.iload 10, 2) := by decide +kernel
theorem d_Mo_eliminate_213 : decode (am_Mof y_Mo_eliminate).1 213 = .ok (.iadd, 1) := by decide +kernel
theorem d_Mo_eliminate_214 : decode (am_Mof y_Mo_eliminate).1 214 = .ok (.invokevirtual 126, 3) := by decide +kernel
theorem d_Mo_eliminate_217 : decode (am_Mof y_Mo_eliminate).1 217 = .ok (.iinc 10 1, 3) := by decide +kernel
theorem d_Mo_eliminate_220 : decode (am_Mof y_Mo_eliminate).1 220 = .ok (.goto (-31), 3) := by decide +kernel
theorem d_Mo_eliminate_223 : decode (am_Mof y_Mo_eliminate).1 223 = .ok (.iinc 3 1, 3) := by decide +kernel
theorem d_Mo_eliminate_226 : decode (am_Mof y_Mo_eliminate).1 226 = .ok (.goto (-184), 3) := by decide +kernel
theorem d_Mo_eliminate_229 : decode (am_Mof y_Mo_eliminate).1 229 = .ok (.iinc 1 1, 3) := by decide +kernel
theorem d_Mo_eliminate_232 : decode (am_Mof y_Mo_eliminate).1 232 = .ok (.goto (-230), 3) := by decide +kernel
theorem d_Mo_eliminate_235 : decode (am_Mof y_Mo_eliminate).1 235 = .ok (.return_, 1) := by decide +kernel
theorem d_Mo_swap_0 : decode (am_Mof y_Mo_swap).1 0 = .ok (.iconst 0, 1) := by decide +kernel
theorem d_Mo_swap_1 : decode (am_Mof y_Mo_swap).1 1 = .ok (.istore_n 3, 1) := by decide +kernel
theorem d_Mo_swap_2 : decode (am_Mof y_Mo_swap).1 2 = .ok (.iload_n 3, 1) := by decide +kernel
theorem d_Mo_swap_3 : decode (am_Mof y_Mo_swap).1 3 = .ok (.iconst 5, 1) := by decide +kernel
theorem d_Mo_swap_4 : decode (am_Mof y_Mo_swap).1 4 = .ok (.if_icmp .gt 105, 3) := by decide +kernel
theorem d_Mo_swap_7 : decode (am_Mof y_Mo_swap).1 7 = .ok (.aload_n 0, 1) := by decide +kernel
theorem d_Mo_swap_8 : decode (am_Mof y_Mo_swap).1 8 = .ok (.getfield 66, 3) := by decide +kernel
theorem d_Mo_swap_11 : decode (am_Mof y_Mo_swap).1 11 = .ok (.bipush 6, 2) := by decide +kernel
theorem d_Mo_swap_13 : decode (am_Mof y_Mo_swap).1 13 = .ok (.iload_n 1, 1) := by decide +kernel
theorem d_Mo_swap_14 : decode (am_Mof y_Mo_swap).1 14 = .ok (.imul, 1) := by decide +kernel
theorem d_Mo_swap_15 : decode (am_Mof y_Mo_swap).1 15 = .ok (.iload_n 3, 1) := by decide +kernel
theorem d_Mo_swap_16 : decode (am_Mof y_Mo_swap).1 16 = .ok (.iadd, 1) := by decide +kernel
theorem d_Mo_swap_17 : decode (am_Mof y_Mo_swap).1 17 = .ok (.laload, 1) := by decide +kernel
theorem d_Mo_swap_18 : decode (am_Mof y_Mo_swap).1 18 = .ok (.lstore 4, 2) := by decide +kernel
theorem d_Mo_swap_20 : decode (am_Mof y_Mo_swap).1 20 = .ok (.aload_n 0, 1) := by decide +kernel
theorem d_Mo_swap_21 : decode (am_Mof y_Mo_swap).1 21 = .ok (.getfield 69, 3) := by decide +kernel
theorem d_Mo_swap_24 : decode (am_Mof y_Mo_swap).1 24 = .ok (.bipush 6, 2) := by decide +kernel
theorem d_Mo_swap_26 : decode (am_Mof y_Mo_swap).1 26 = .ok (.iload_n 1, 1) := by decide +kernel
theorem d_Mo_swap_27 : decode (am_Mof y_Mo_swap).1 27 = .ok (.imul, 1) := by decide +kernel
theorem d_Mo_swap_28 : decode (am_Mof y_Mo_swap).1 28 = .ok (.iload_n 3, 1) := by decide +kernel
theorem d_Mo_swap_29 : decode (am_Mof y_Mo_swap).1 29 = .ok (.iadd, 1) := by decide +kernel
theorem d_Mo_swap_30 : decode (am_Mof y_Mo_swap).1 30 = .ok (.laload, 1) := by decide +kernel
theorem d_Mo_swap_31 : decode (am_Mof y_Mo_swap).1 31 = .ok (.lstore 6, 2) := by decide +kernel
theorem d_Mo_swap_33 : decode (am_Mof y_Mo_swap).1 33 = .ok (.aload_n 0, 1) := by decide +kernel
theorem d_Mo_swap_34 : decode (am_Mof y_Mo_swap).1 34 = .ok (.getfield 66, 3) := by decide +kernel
theorem d_Mo_swap_37 : decode (am_Mof y_Mo_swap).1 37 = .ok (.bipush 6, 2) := by decide +kernel
theorem d_Mo_swap_39 : decode (am_Mof y_Mo_swap).1 39 = .ok (.iload_n 1, 1) := by decide +kernel
theorem d_Mo_swap_40 : decode (am_Mof y_Mo_swap).1 40 = .ok (.imul, 1) := by decide +kernel
theorem d_Mo_swap_41 : decode (am_Mof y_Mo_swap).1 41 = .ok (.iload_n 3, 1) := by decide +kernel
theorem d_Mo_swap_42 : decode (am_Mof y_Mo_swap).1 42 = .ok (.iadd, 1) := by decide +kernel
theorem d_Mo_swap_43 : decode (am_Mof y_Mo_swap).1 43 = .ok (.aload_n 0, 1) := by decide +kernel
theorem d_Mo_swap_44 : decode (am_Mof y_Mo_swap).1 44 = .ok (.getfield 66, 3) := by decide +kernel
theorem d_Mo_swap_47 : decode (am_Mof y_Mo_swap).1 47 = .ok (.bipush 6, 2) := by decide +kernel
theorem d_Mo_swap_49 : decode (am_Mof y_Mo_swap).1 49 = .ok (.iload_n 2, 1) := by decide +kernel
theorem d_Mo_swap_50 : decode (am_Mof y_Mo_swap).1 50 = .ok (.imul, 1) := by decide +kernel
theorem d_Mo_swap_51 : decode (am_Mof y_Mo_swap).1 51 = .ok (.iload_n 3, 1) := by decide +kernel
theorem d_Mo_swap_52 : decode (am_Mof y_Mo_swap).1 52 = .ok (.iadd, 1) := by decide +kernel
theorem d_Mo_swap_53 : decode (am_Mof y_Mo_swap).1 53 = .ok (.laload, 1) := by decide +kernel
theorem d_Mo_swap_54 : decode (am_Mof y_Mo_swap).1 54 = .ok (.lastore, 1) := by decide +kernel
theorem d_Mo_swap_55 : decode (am_Mof y_Mo_swap).1 55 = .ok (.aload_n 0, 1) := by decide +kernel
theorem d_Mo_swap_56 : decode (am_Mof y_Mo_swap).1 56 = .ok (.getfield 69, 3) := by decide +kernel
theorem d_Mo_swap_59 : decode (am_Mof y_Mo_swap).1 59 = .ok (.bipush 6, 2) := by decide +kernel
theorem d_Mo_swap_61 : decode (am_Mof y_Mo_swap).1 61 = .ok (.iload_n 1, 1) := by decide +kernel
theorem d_Mo_swap_62 : decode (am_Mof y_Mo_swap).1 62 = .ok (.imul, 1) := by decide +kernel
theorem d_Mo_swap_63 : decode (am_Mof y_Mo_swap).1 63 = .ok (.iload_n 3, 1) := by decide +kernel
theorem d_Mo_swap_64 : decode (am_Mof y_Mo_swap).1 64 = .ok (.iadd, 1) := by decide +kernel
theorem d_Mo_swap_65 : decode (am_Mof y_Mo_swap).1 65 = .ok (.aload_n 0, 1) := by decide +kernel
theorem d_Mo_swap_66 : decode (am_Mof y_Mo_swap).1 66 = .ok (.getfield 69, 3) := by decide +kernel
theorem d_Mo_swap_69 : decode (am_Mof y_Mo_swap).1 69 = .ok (.bipush 6, 2) := by decide +kernel
theorem d_Mo_swap_71 : decode (am_Mof y_Mo_swap).1 71 = .ok (.iload_n 2, 1) := by decide +kernel
theorem d_Mo_swap_72 : decode (am_Mof y_Mo_swap).1 72 = .ok (.imul, 1) := by decide +kernel
theorem d_Mo_swap_73 : decode (am_Mof y_Mo_swap).1 73 = .ok (.iload_n 3, 1) := by decide +kernel
theorem d_Mo_swap_74 : decode (am_Mof y_Mo_swap).1 74 = .ok (.iadd, 1) := by decide +kernel
theorem d_Mo_swap_75 : decode (am_Mof y_Mo_swap).1 75 = .ok (.laload, 1) := by decide +kernel
theorem d_Mo_swap_76 : decode (am_Mof y_Mo_swap).1 76 = .ok (.lastore, 1) := by decide +kernel
theorem d_Mo_swap_77 : decode (am_Mof y_Mo_swap).1 77 = .ok (.aload_n 0, 1) := by decide +kernel
theorem d_Mo_swap_78 : decode (am_Mof y_Mo_swap).1 78 = .ok (.getfield 66, 3) := by decide +kernel
theorem d_Mo_swap_81 : decode (am_Mof y_Mo_swap).1 81 = .ok (.bipush 6, 2) := by decide +kernel
theorem d_Mo_swap_83 : decode (am_Mof y_Mo_swap).1 83 = .ok (.iload_n 2, 1) := by decide +kernel
theorem d_Mo_swap_84 : decode (am_Mof y_Mo_swap).1 84 = .ok (.imul, 1) := by decide +kernel
theorem d_Mo_swap_85 : decode (am_Mof y_Mo_swap).1 85 = .ok (.iload_n 3, 1) := by decide +kernel
theorem d_Mo_swap_86 : decode (am_Mof y_Mo_swap).1 86 = .ok (.iadd, 1) := by decide +kernel
theorem d_Mo_swap_87 : decode (am_Mof y_Mo_swap).1 87 = .ok (.lload 4, 2) := by decide +kernel
theorem d_Mo_swap_89 : decode (am_Mof y_Mo_swap).1 89 = .ok (.lastore, 1) := by decide +kernel
theorem d_Mo_swap_90 : decode (am_Mof y_Mo_swap).1 90 = .ok (.aload_n 0, 1) := by decide +kernel
theorem d_Mo_swap_91 : decode (am_Mof y_Mo_swap).1 91 = .ok (.getfield 69, 3) := by decide +kernel
theorem d_Mo_swap_94 : decode (am_Mof y_Mo_swap).1 94 = .ok (.bipush 6, 2) := by decide +kernel
theorem d_Mo_swap_96 : decode (am_Mof y_Mo_swap).1 96 = .ok (.iload_n 2, 1) := by decide +kernel
theorem d_Mo_swap_97 : decode (am_Mof y_Mo_swap).1 97 = .ok (.imul, 1) := by decide +kernel
theorem d_Mo_swap_98 : decode (am_Mof y_Mo_swap).1 98 = .ok (.iload_n 3, 1) := by decide +kernel
theorem d_Mo_swap_99 : decode (am_Mof y_Mo_swap).1 99 = .ok (.iadd, 1) := by decide +kernel
theorem d_Mo_swap_100 : decode (am_Mof y_Mo_swap).1 100 = .ok (.lload 6, 2) := by decide +kernel
theorem d_Mo_swap_102 : decode (am_Mof y_Mo_swap).1 102 = .ok (.lastore, 1) := by decide +kernel
theorem d_Mo_swap_103 : decode (am_Mof y_Mo_swap).1 103 = .ok (.iinc 3 1, 3) := by decide +kernel
theorem d_Mo_swap_106 : decode (am_Mof y_Mo_swap).1 106 = .ok (.goto (-104), 3) := by decide +kernel
theorem d_Mo_swap_109 : decode (am_Mof y_Mo_swap).1 109 = .ok (.return_, 1) := by decide +kernel
theorem d_Mo_lessen_0 : decode (am_Mof y_Mo_lessen).1 0 = .ok (.lload_n 2, 1) := by decide +kernel
theorem d_Mo_lessen_1 : decode (am_Mof y_Mo_lessen).1 1 = .ok (.aload_n 0, 1) := by decide +kernel
theorem d_Mo_lessen_2 : decode (am_Mof y_Mo_lessen).1 2 = .ok (.getfield 66, 3) := by decide +kernel
theorem d_Mo_lessen_5 : decode (am_Mof y_Mo_lessen).1 5 = .ok (.iload 6, 2) := by decide +kernel
theorem d_Mo_lessen_7 : decode (am_Mof y_Mo_lessen).1 7 = .ok (.laload, 1) := by decide +kernel
theorem d_Mo_lessen_8 : decode (am_Mof y_Mo_lessen).1 8 = .ok (.lmul, 1) := by decide +kernel
theorem d_Mo_lessen_9 : decode (am_Mof y_Mo_lessen).1 9 = .ok (.lstore 7, 2) := by decide +kernel
theorem d_Mo_lessen_11 : decode (am_Mof y_Mo_lessen).1 11 = .ok (.lload 4, 2) := by decide +kernel
theorem d_Mo_lessen_13 : decode (am_Mof y_Mo_lessen).1 13 = .ok (.aload_n 0, 1) := by decide +kernel
theorem d_Mo_lessen_14 : decode (am_Mof y_Mo_lessen).1 14 = .ok (.getfield 69, 3) := by decide +kernel
theorem d_Mo_lessen_17 : decode (am_Mof y_Mo_lessen).1 17 = .ok (.iload 6, 2) := by decide +kernel
theorem d_Mo_lessen_19 : decode (am_Mof y_Mo_lessen).1 19 = .ok (.laload, 1) := by decide +kernel
theorem d_Mo_lessen_20 : decode (am_Mof y_Mo_lessen).1 20 = .ok (.lmul, 1) := by decide +kernel
theorem d_Mo_lessen_21 : decode (am_Mof y_Mo_lessen).1 21 = .ok (.lstore 9, 2) := by decide +kernel
theorem d_Mo_lessen_23 : decode (am_Mof y_Mo_lessen).1 23 = .ok (.lload 7, 2) := by decide +kernel
theorem d_Mo_lessen_25 : decode (am_Mof y_Mo_lessen).1 25 = .ok (.lload 9, 2) := by decide +kernel
theorem d_Mo_lessen_27 : decode (am_Mof y_Mo_lessen).1 27 = .ok (.invokestatic 114, 3) := by decide +kernel
theorem d_Mo_lessen_30 : decode (am_Mof y_Mo_lessen).1 30 = .ok (.lstore 11, 2) := by decide +kernel
theorem d_Mo_lessen_32 : decode (am_Mof y_Mo_lessen).1 32 = .ok (.lload 7, 2) := by decide +kernel
theorem d_Mo_lessen_34 : decode (am_Mof y_Mo_lessen).1 34 = .ok (.lload 11, 2) := by decide +kernel
theorem d_Mo_lessen_36 : decode (am_Mof y_Mo_lessen).1 36 = .ok (.ldiv, 1) := by decide +kernel
theorem d_Mo_lessen_37 : decode (am_Mof y_Mo_lessen).1 37 = .ok (.lstore 7, 2) := by decide +kernel
theorem d_Mo_lessen_39 : decode (am_Mof y_Mo_lessen).1 39 = .ok (.lload 9, 2) := by decide +kernel
theorem d_Mo_lessen_41 : decode (am_Mof y_Mo_lessen).1 41 = .ok (.lload 11, 2) := by decide +kernel
theorem d_Mo_lessen_43 : decode (am_Mof y_Mo_lessen).1 43 = .ok (.ldiv, 1) := by decide +kernel
theorem d_Mo_lessen_44 : decode (am_Mof y_Mo_lessen).1 44 = .ok (.lstore 9, 2) := by decide +kernel
theorem d_Mo_lessen_46 : decode (am_Mof y_Mo_lessen).1 46 = .ok (.aload_n 0, 1) := by decide +kernel
theorem d_Mo_lessen_47 : decode (am_Mof y_Mo_lessen).1 47 = .ok (.iload_n 1, 1) := by decide +kernel
theorem d_Mo_lessen_48 : decode (am_Mof y_Mo_lessen).1 48 = .ok (.aload_n 0, 1) := by decide +kernel
theorem d_Mo_lessen_49 : decode (am_Mof y_Mo_lessen).1 49 = .ok (.getfield 66, 3) := by decide +kernel
theorem d_Mo_lessen_52 : decode (am_Mof y_Mo_lessen).1 52 = .ok (.iload_n 1, 1) := by decide +kernel
theorem d_Mo_lessen_53 : decode (am_Mof y_Mo_lessen).1 53 = .ok (.laload, 1) := by decide +kernel
theorem d_Mo_lessen_54 : decode (am_Mof y_Mo_lessen).1 54 = .ok (.lload 9, 2) := by decide +kernel
theorem d_Mo_lessen_56 : decode (am_Mof y_Mo_lessen).1 56 = .ok (.lmul, 1) := by decide +kernel
theorem d_Mo_lessen_57 : decode (am_Mof y_Mo_lessen).1 57 = .ok (.lload 7, 2) := by decide +kernel
theorem d_Mo_lessen_59 : decode (am_Mof y_Mo_lessen).1 59 = .ok (.aload_n 0, 1) := by decide +kernel
theorem d_Mo_lessen_60 : decode (am_Mof y_Mo_lessen).1 60 = .ok (.getfield 69, 3) := by decide +kernel
theorem d_Mo_lessen_63 : decode (am_Mof y_Mo_lessen).1 63 = .ok (.iload_n 1, 1) := by decide +kernel
theorem d_Mo_lessen_64 : decode (am_Mof y_Mo_lessen).1 64 = .ok (.laload, 1) := by decide +kernel
theorem d_Mo_lessen_65 : decode (am_Mof y_Mo_lessen).1 65 = .ok (.lmul, 1) := by decide +kernel
theorem d_Mo_lessen_66 : decode (am_Mof y_Mo_lessen).1 66 = .ok (.lsub, 1) := by decide +kernel
theorem d_Mo_lessen_67 : decode (am_Mof y_Mo_lessen).1 67 = .ok (.aload_n 0, 1) := by decide +kernel
theorem d_Mo_lessen_68 : decode (am_Mof y_Mo_lessen).1 68 = .ok (.getfield 69, 3) := by decide +kernel
theorem d_Mo_lessen_71 : decode (am_Mof y_Mo_lessen).1 71 = .ok (.iload_n 1, 1) := by decide +kernel
theorem d_Mo_lessen_72 : decode (am_Mof y_Mo_lessen).1 72 = .ok (.laload, 1) := by decide +kernel
theorem d_Mo_lessen_73 : decode (am_Mof y_Mo_lessen).1 73 = .ok (.lload 9, 2) := by decide +kernel
theorem d_Mo_lessen_75 : decode (am_Mof y_Mo_lessen).1 75 = .ok (.lmul, 1) := by decide +kernel
theorem d_Mo_lessen_76 : decode (am_Mof y_Mo_lessen).1 76 = .ok (.invokevirtual 118, 3) := by decide +kernel
theorem d_Mo_lessen_79 : decode (am_Mof y_Mo_lessen).1 79 = .ok (.return_, 1) := by decide +kernel
theorem d_Mo_noteBare_0 : decode (am_Mof y_Mo_noteBare).1 0 = .ok (.iconst 0, 1) := by decide +kernel
theorem d_Mo_noteBare_1 : decode (am_Mof y_Mo_noteBare).1 1 = .ok (.istore_n 1, 1) := by decide +kernel
theorem d_Mo_noteBare_2 : decode (am_Mof y_Mo_noteBare).1 2 = .ok (.iload_n 1, 1) := by decide +kernel
theorem d_Mo_noteBare_3 : decode (am_Mof y_Mo_noteBare).1 3 = .ok (.iconst 4, 1) := by decide +kernel
theorem d_Mo_noteBare_4 : decode (am_Mof y_Mo_noteBare).1 4 = .ok (.if_icmp .ge 256, 3) := by decide +kernel
theorem d_Mo_noteBare_7 : decode (am_Mof y_Mo_noteBare).1 7 = .ok (.iconst 0, 1) := by decide +kernel
theorem d_Mo_noteBare_8 : decode (am_Mof y_Mo_noteBare).1 8 = .ok (.istore_n 2, 1) := by decide +kernel
theorem d_Mo_noteBare_9 : decode (am_Mof y_Mo_noteBare).1 9 = .ok (.iconst 0, 1) := by decide +kernel
theorem d_Mo_noteBare_10 : decode (am_Mof y_Mo_noteBare).1 10 = .ok (.istore_n 3, 1) := by decide +kernel
theorem d_Mo_noteBare_11 : decode (am_Mof y_Mo_noteBare).1 11 = .ok (.iload_n 3, 1) := by decide +kernel
theorem d_Mo_noteBare_12 : decode (am_Mof y_Mo_noteBare).1 12 = .ok (.aload_n 0, 1) := by decide +kernel
theorem d_Mo_noteBare_13 : decode (am_Mof y_Mo_noteBare).1 13 = .ok (.getfield 97, 3) := by decide +kernel
theorem d_Mo_noteBare_16 : decode (am_Mof y_Mo_noteBare).1 16 = .ok (.if_icmp .ge 45, 3) := by decide +kernel
theorem d_Mo_noteBare_19 : decode (am_Mof y_Mo_noteBare).1 19 = .ok (.iload_n 2, 1) := by decide +kernel
theorem d_Mo_noteBare_20 : decode (am_Mof y_Mo_noteBare).1 20 = .ok (.aload_n 0, 1) := by decide +kernel
theorem d_Mo_noteBare_21 : decode (am_Mof y_Mo_noteBare).1 21 = .ok (.getfield 26, 3) := by decide +kernel
theorem d_Mo_noteBare_24 : decode (am_Mof y_Mo_noteBare).1 24 = .ok (.iload_n 3, 1) := by decide +kernel
theorem d_Mo_noteBare_25 : decode (am_Mof y_Mo_noteBare).1 25 = .ok (.iaload, 1) := by decide +kernel
theorem d_Mo_noteBare_26 : decode (am_Mof y_Mo_noteBare).1 26 = .ok (.iload_n 1, 1) := by decide +kernel
theorem d_Mo_noteBare_27 : decode (am_Mof y_Mo_noteBare).1 27 = .ok (.if_icmp .ne 25, 3) := by decide +kernel
theorem d_Mo_noteBare_30 : decode (am_Mof y_Mo_noteBare).1 30 = .ok (.aload_n 0, 1) := by decide +kernel
theorem d_Mo_noteBare_31 : decode (am_Mof y_Mo_noteBare).1 31 = .ok (.getfield 35, 3) := by decide +kernel
theorem d_Mo_noteBare_34 : decode (am_Mof y_Mo_noteBare).1 34 = .ok (.iload_n 3, 1) := by decide +kernel
theorem d_Mo_noteBare_35 : decode (am_Mof y_Mo_noteBare).1 35 = .ok (.laload, 1) := by decide +kernel
theorem d_Mo_noteBare_36 : decode (am_Mof y_Mo_noteBare).1 36 = .ok (.lconst 0, 1) := by decide +kernel
theorem d_Mo_noteBare_37 : decode (am_Mof y_Mo_noteBare).1 37 = .ok (.lcmp, 1) := by decide +kernel
theorem d_Mo_noteBare_38 : decode (am_Mof y_Mo_noteBare).1 38 = .ok (.ifCond .le 14, 3) := by decide +kernel
theorem d_Mo_noteBare_41 : decode (am_Mof y_Mo_noteBare).1 41 = .ok (.iconst 1, 1) := by decide +kernel
theorem d_Mo_noteBare_42 : decode (am_Mof y_Mo_noteBare).1 42 = .ok (.aload_n 0, 1) := by decide +kernel
theorem d_Mo_noteBare_43 : decode (am_Mof y_Mo_noteBare).1 43 = .ok (.getfield 23, 3) := by decide +kernel
theorem d_Mo_noteBare_46 : decode (am_Mof y_Mo_noteBare).1 46 = .ok (.iload_n 3, 1) := by decide +kernel
theorem d_Mo_noteBare_47 : decode (am_Mof y_Mo_noteBare).1 47 = .ok (.iaload, 1) := by decide +kernel
theorem d_Mo_noteBare_48 : decode (am_Mof y_Mo_noteBare).1 48 = .ok (.ishl, 1) := by decide +kernel
theorem d_Mo_noteBare_49 : decode (am_Mof y_Mo_noteBare).1 49 = .ok (.goto 4, 3) := by decide +kernel
theorem d_Mo_noteBare_52 : decode (am_Mof y_Mo_noteBare).1 52 = .ok (.iconst 0, 1) := by decide +kernel
theorem d_Mo_noteBare_53 : decode (am_Mof y_Mo_noteBare).1 53 = .ok (.ior, 1) := by decide +kernel
theorem d_Mo_noteBare_54 : decode (am_Mof y_Mo_noteBare).1 54 = .ok (.istore_n 2, 1) := by decide +kernel
theorem d_Mo_noteBare_55 : decode (am_Mof y_Mo_noteBare).1 55 = .ok (.iinc 3 1, 3) := by decide +kernel
theorem d_Mo_noteBare_58 : decode (am_Mof y_Mo_noteBare).1 58 = .ok (.goto (-47), 3) := by decide +kernel
theorem d_Mo_noteBare_61 : decode (am_Mof y_Mo_noteBare).1 61 = .ok (.iconst 0, 1) := by decide +kernel
theorem d_Mo_noteBare_62 : decode (am_Mof y_Mo_noteBare).1 62 = .ok (.istore_n 3, 1) := by decide +kernel
theorem d_Mo_noteBare_63 : decode (am_Mof y_Mo_noteBare).1 63 = .ok (.iload_n 3, 1) := by decide +kernel
theorem d_Mo_noteBare_64 : decode (am_Mof y_Mo_noteBare).1 64 = .ok (.iconst 5, 1) := by decide +kernel
theorem d_Mo_noteBare_65 : decode (am_Mof y_Mo_noteBare).1 65 = .ok (.if_icmp .ge 107, 3) := by decide +kernel
theorem d_Mo_noteBare_68 : decode (am_Mof y_Mo_noteBare).1 68 = .ok (.iconst 0, 1) := by decide +kernel
theorem d_Mo_noteBare_69 : decode (am_Mof y_Mo_noteBare).1 69 = .ok (.istore 4, 2) := by decide +kernel
theorem d_Mo_noteBare_71 : decode (am_Mof y_Mo_noteBare).1 71 = .ok (.iload 4, 2) := by decide +kernel
theorem d_Mo_noteBare_73 : decode (am_Mof y_Mo_noteBare).1 73 = .ok (.aload_n 0, 1) := by decide +kernel
theorem d_Mo_noteBare_74 : decode (am_Mof y_Mo_noteBare).1 74 = .ok (.getfield 72, 3) := by decide +kernel
theorem d_Mo_noteBare_77 : decode (am_Mof y_Mo_noteBare).1 77 = .ok (.if_icmp .ge 89, 3) := by decide +kernel
theorem d_Mo_noteBare_80 : decode (am_Mof y_Mo_noteBare).1 80 = .ok (.iconst 0, 1) := by decide +kernel
theorem d_Mo_noteBare_81 : decode (am_Mof y_Mo_noteBare).1 81 = .ok (.istore 5, 2) := by decide +kernel
theorem d_Mo_noteBare_83 : decode (am_Mof y_Mo_noteBare).1 83 = .ok (.iload 5, 2) := by decide +kernel
theorem d_Mo_noteBare_85 : decode (am_Mof y_Mo_noteBare).1 85 = .ok (.aload_n 0, 1) := by decide +kernel
theorem d_Mo_noteBare_86 : decode (am_Mof y_Mo_noteBare).1 86 = .ok (.getfield 72, 3) := by decide +kernel
theorem d_Mo_noteBare_89 : decode (am_Mof y_Mo_noteBare).1 89 = .ok (.if_icmp .ge 71, 3) := by decide +kernel
theorem d_Mo_noteBare_92 : decode (am_Mof y_Mo_noteBare).1 92 = .ok (.iload_n 2, 1) := by decide +kernel
theorem d_Mo_noteBare_93 : decode (am_Mof y_Mo_noteBare).1 93 = .ok (.iload 4, 2) := by decide +kernel
theorem d_Mo_noteBare_95 : decode (am_Mof y_Mo_noteBare).1 95 = .ok (.ishr, 1) := by decide +kernel
theorem d_Mo_noteBare_96 : decode (am_Mof y_Mo_noteBare).1 96 = .ok (.iconst 1, 1) := by decide +kernel
theorem d_Mo_noteBare_97 : decode (am_Mof y_Mo_noteBare).1 97 = .ok (.iand, 1) := by decide +kernel
theorem d_Mo_noteBare_98 : decode (am_Mof y_Mo_noteBare).1 98 = .ok (.iconst 1, 1) := by decide +kernel
theorem d_Mo_noteBare_99 : decode (am_Mof y_Mo_noteBare).1 99 = .ok (.if_icmp .ne 36, 3) := by decide +kernel
theorem d_Mo_noteBare_102 : decode (am_Mof y_Mo_noteBare).1 102 = .ok (.aload_n 0, 1) := by decide +kernel
theorem d_Mo_noteBare_103 : decode (am_Mof y_Mo_noteBare).1 103 = .ok (.getfield 13, 3) := by decide +kernel
theorem d_Mo_noteBare_106 : decode (am_Mof y_Mo_noteBare).1 106 = .ok (.iconst 4, 1) := by decide +kernel
theorem d_Mo_noteBare_107 : decode (am_Mof y_Mo_noteBare).1 107 = .ok (.iload 4, 2) := by decide +kernel
theorem d_Mo_noteBare_109 : decode (am_Mof y_Mo_noteBare).1 109 = .ok (.imul, 1) := by decide +kernel
theorem d_Mo_noteBare_110 : decode (am_Mof y_Mo_noteBare).1 110 = .ok (.iload_n 1, 1) := by decide +kernel
theorem d_Mo_noteBare_111 : decode (am_Mof y_Mo_noteBare).1 111 = .ok (.iadd, 1) := by decide +kernel
theorem d_Mo_noteBare_112 : decode (am_Mof y_Mo_noteBare).1 112 = .ok (.baload, 1) := by decide +kernel
theorem d_Mo_noteBare_113 : decode (am_Mof y_Mo_noteBare).1 113 = .ok (.ifCond .ne 22, 3) := by decide +kernel
theorem d_Mo_noteBare_116 : decode (am_Mof y_Mo_noteBare).1 116 = .ok (.aload_n 0, 1) := by decide +kernel
theorem d_Mo_noteBare_117 : decode (am_Mof y_Mo_noteBare).1 117 = .ok (.getfield 7, 3) := by decide +kernel
theorem d_Mo_noteBare_120 : decode (am_Mof y_Mo_noteBare).1 120 = .ok (.iconst 5, 1) := by decide +kernel
theorem d_Mo_noteBare_121 : decode (am_Mof y_Mo_noteBare).1 121 = .ok (.iload 4, 2) := by decide +kernel
theorem d_Mo_noteBare_123 : decode (am_Mof y_Mo_noteBare).1 123 = .ok (.imul, 1) := by decide +kernel
theorem d_Mo_noteBare_124 : decode (am_Mof y_Mo_noteBare).1 124 = .ok (.iload 5, 2) := by decide +kernel
theorem d_Mo_noteBare_126 : decode (am_Mof y_Mo_noteBare).1 126 = .ok (.iadd, 1) := by decide +kernel
theorem d_Mo_noteBare_127 : decode (am_Mof y_Mo_noteBare).1 127 = .ok (.iaload, 1) := by decide +kernel
theorem d_Mo_noteBare_128 : decode (am_Mof y_Mo_noteBare).1 128 = .ok (.ifCond .le 7, 3) := by decide +kernel
theorem d_Mo_noteBare_131 : decode (am_Mof y_Mo_noteBare).1 131 = .ok (.iconst 1, 1) := by decide +kernel
theorem d_Mo_noteBare_132 : decode (am_Mof y_Mo_noteBare).1 132 = .ok (.goto 4, 3) := by decide +kernel
theorem d_Mo_noteBare_135 : decode (am_Mof y_Mo_noteBare).1 135 = .ok (.iconst 0, 1) := by decide +kernel
theorem d_Mo_noteBare_136 : decode (am_Mof y_Mo_noteBare).1 136 = .ok (.istore 6, 2) := by decide +kernel
theorem d_Mo_noteBare_138 : decode (am_Mof y_Mo_noteBare).1 138 = .ok (.iload_n 2, 1) := by decide +kernel
theorem d_Mo_noteBare_139 : decode (am_Mof y_Mo_noteBare).1 139 = .ok (.iload 6, 2) := by decide +kernel
theorem d_Mo_noteBare_141 : decode (am_Mof y_Mo_noteBare).1 141 = .ok (.ifCond .eq 10, 3) := by decide +kernel
theorem d_Mo_noteBare_144 : decode (am_Mof y_Mo_noteBare).1 144 = .ok (.iconst 1, 1) := by decide +kernel
theorem d_Mo_noteBare_145 : decode (am_Mof y_Mo_noteBare).1 145 = .ok (.iload 5, 2) := by decide +kernel
theorem d_Mo_noteBare_147 : decode (am_Mof y_Mo_noteBare).1 147 = .ok (.ishl, 1) := by decide +kernel
theorem d_Mo_noteBare_148 : decode (am_Mof y_Mo_noteBare).1 148 = .ok (.goto 4, 3) := by decide +kernel
theorem d_Mo_noteBare_151 : decode (am_Mof y_Mo_noteBare).1 151 = .ok (.iconst 0, 1) := by decide +kernel
theorem d_Mo_noteBare_152 : decode (am_Mof y_Mo_noteBare).1 152 = .ok (.ior, 1) := by decide +kernel
theorem d_Mo_noteBare_153 : decode (am_Mof y_Mo_noteBare).1 153 = .ok (.istore_n 2, 1) := by decide +kernel
theorem d_Mo_noteBare_154 : decode (am_Mof y_Mo_noteBare).1 154 = .ok (.iinc 5 1, 3) := by decide +kernel
theorem d_Mo_noteBare_157 : decode (am_Mof y_Mo_noteBare).1 157 = .ok (.goto (-74), 3) := by decide +kernel
theorem d_Mo_noteBare_160 : decode (am_Mof y_Mo_noteBare).1 160 = .ok (.iinc 4 1, 3) := by decide +kernel
theorem d_Mo_noteBare_163 : decode (am_Mof y_Mo_noteBare).1 163 = .ok (.goto (-92), 3) := by decide +kernel
theorem d_Mo_noteBare_166 : decode (am_Mof y_Mo_noteBare).1 166 = .ok (.iinc 3 1, 3) := by decide +kernel
theorem d_Mo_noteBare_169 : decode (am_Mof y_Mo_noteBare).1 169 = .ok (.goto (-106), 3) := by decide +kernel
theorem d_Mo_noteBare_172 : decode (am_Mof y_Mo_noteBare).1 172 = .ok (.iconst 0, 1) := by decide +kernel
theorem d_Mo_noteBare_173 : decode (am_Mof y_Mo_noteBare).1 173 = .ok (.istore_n 3, 1) := by decide +kernel
theorem d_Mo_noteBare_174 : decode (am_Mof y_Mo_noteBare).1 174 = .ok (.iload_n 3, 1) := by decide +kernel
theorem d_Mo_noteBare_175 : decode (am_Mof y_Mo_noteBare).1 175 = .ok (.aload_n 0, 1) := by decide +kernel
theorem d_Mo_noteBare_176 : decode (am_Mof y_Mo_noteBare).1 176 = .ok (.getfield 72, 3) := by decide +kernel
theorem d_Mo_noteBare_179 : decode (am_Mof y_Mo_noteBare).1 179 = .ok (.if_icmp .ge 75, 3) := by decide +kernel
theorem d_Mo_noteBare_182 : decode (am_Mof y_Mo_noteBare).1 182 = .ok (.aload_n 0, 1) := by decide +kernel
theorem d_Mo_noteBare_183 : decode (am_Mof y_Mo_noteBare).1 183 = .ok (.getfield 13, 3) := by decide +kernel
theorem d_Mo_noteBare_186 : decode (am_Mof y_Mo_noteBare).1 186 = .ok (.iconst 4, 1) := by decide +kernel
theorem d_Mo_noteBare_187 : decode (am_Mof y_Mo_noteBare).1 187 = .ok (.iload_n 3, 1) := by decide +kernel
theorem d_Mo_noteBare_188 : decode (am_Mof y_Mo_noteBare).1 188 = .ok (.imul, 1) := by decide +kernel
theorem d_Mo_noteBare_189 : decode (am_Mof y_Mo_noteBare).1 189 = .ok (.iload_n 1, 1) := by decide +kernel
theorem d_Mo_noteBare_190 : decode (am_Mof y_Mo_noteBare).1 190 = .ok (.iadd, 1) := by decide +kernel
theorem d_Mo_noteBare_191 : decode (am_Mof y_Mo_noteBare).1 191 = .ok (.baload, 1) := by decide +kernel
theorem d_Mo_noteBare_192 : decode (am_Mof y_Mo_noteBare).1 192 = .ok (.ifCond .ne 24, 3) := by decide +kernel
theorem d_Mo_noteBare_195 : decode (am_Mof y_Mo_noteBare).1 195 = .ok (.aload_n 0, 1) := by decide +kernel
theorem d_Mo_noteBare_196 : decode (am_Mof y_Mo_noteBare).1 196 = .ok (.iload_n 3, 1) := by decide +kernel
theorem d_Mo_noteBare_197 : decode (am_Mof y_Mo_noteBare).1 197 = .ok (.invokevirtual 110, 3) := by decide +kernel
theorem d_Mo_noteBare_200 : decode (am_Mof y_Mo_noteBare).1 200 = .ok (.ifCond .ne 16, 3) := by decide +kernel
theorem d_Mo_noteBare_203 : decode (am_Mof y_Mo_noteBare).1 203 = .ok (.aload_n 0, 1) := by decide +kernel
theorem d_Mo_noteBare_204 : decode (am_Mof y_Mo_noteBare).1 204 = .ok (.getfield 17, 3) := by decide +kernel
theorem d_Mo_noteBare_207 : decode (am_Mof y_Mo_noteBare).1 207 = .ok (.iload_n 3, 1) := by decide +kernel
theorem d_Mo_noteBare_208 : decode (am_Mof y_Mo_noteBare).1 208 = .ok (.baload, 1) := by decide +kernel
theorem d_Mo_noteBare_209 : decode (am_Mof y_Mo_noteBare).1 209 = .ok (.ifCond .ne 7, 3) := by decide +kernel
theorem d_Mo_noteBare_212 : decode (am_Mof y_Mo_noteBare).1 212 = .ok (.iconst 1, 1) := by decide +kernel
theorem d_Mo_noteBare_213 : decode (am_Mof y_Mo_noteBare).1 213 = .ok (.goto 4, 3) := by decide +kernel
theorem d_Mo_noteBare_216 : decode (am_Mof y_Mo_noteBare).1 216 = .ok (.iconst 0, 1) := by decide +kernel
theorem d_Mo_noteBare_217 : decode (am_Mof y_Mo_noteBare).1 217 = .ok (.istore 4, 2) := by decide +kernel
theorem d_Mo_noteBare_219 : decode (am_Mof y_Mo_noteBare).1 219 = .ok (.aload_n 0, 1) := by decide +kernel
theorem d_Mo_noteBare_220 : decode (am_Mof y_Mo_noteBare).1 220 = .ok (.getfield 51, 3) := by decide +kernel
theorem d_Mo_noteBare_223 : decode (am_Mof y_Mo_noteBare).1 223 = .ok (.iconst 4, 1) := by decide +kernel
theorem d_Mo_noteBare_224 : decode (am_Mof y_Mo_noteBare).1 224 = .ok (.iload_n 3, 1) := by decide +kernel
theorem d_Mo_noteBare_225 : decode (am_Mof y_Mo_noteBare).1 225 = .ok (.imul, 1) := by decide +kernel
theorem d_Mo_noteBare_226 : decode (am_Mof y_Mo_noteBare).1 226 = .ok (.iload_n 1, 1) := by decide +kernel
theorem d_Mo_noteBare_227 : decode (am_Mof y_Mo_noteBare).1 227 = .ok (.iadd, 1) := by decide +kernel
theorem d_Mo_noteBare_228 : decode (am_Mof y_Mo_noteBare).1 228 = .ok (.iload 4, 2) := by decide +kernel
theorem d_Mo_noteBare_230 : decode (am_Mof y_Mo_noteBare).1 230 = .ok (.ifCond .eq 16, 3) := by decide +kernel
theorem d_Mo_noteBare_233 : decode (am_Mof y_Mo_noteBare).1 233 = .ok (.iload_n 2, 1) := by decide +kernel
theorem d_Mo_noteBare_234 : decode (am_Mof y_Mo_noteBare).1 234 = .ok (.iload_n 3, 1) := by decide +kernel
theorem d_Mo_noteBare_235 : decode (am_Mof y_Mo_noteBare).1 235 = .ok (.ishr, 1) := by decide +kernel
theorem d_Mo_noteBare_236 : decode (am_Mof y_Mo_noteBare).1 236 = .ok (.iconst 1, 1) := by decide +kernel
theorem d_Mo_noteBare_237 : decode (am_Mof y_Mo_noteBare).1 237 = .ok (.iand, 1) := by decide +kernel
theorem d_Mo_noteBare_238 : decode (am_Mof y_Mo_noteBare).1 238 = .ok (.iconst 1, 1) := by decide +kernel
theorem d_Mo_noteBare_239 : decode (am_Mof y_Mo_noteBare).1 239 = .ok (.if_icmp .ne 7, 3) := by decide +kernel
theorem d_Mo_noteBare_242 : decode (am_Mof y_Mo_noteBare).1 242 = .ok (.iconst 1, 1) := by decide +kernel
theorem d_Mo_noteBare_243 : decode (am_Mof y_Mo_noteBare).1 243 = .ok (.goto 4, 3) := by decide +kernel
theorem d_Mo_noteBare_246 : decode (am_Mof y_Mo_noteBare).1 246 = .ok (.iconst 0, 1) := by decide +kernel
theorem d_Mo_noteBare_247 : decode (am_Mof y_Mo_noteBare).1 247 = .ok (.bastore, 1) := by decide +kernel
theorem d_Mo_noteBare_248 : decode (am_Mof y_Mo_noteBare).1 248 = .ok (.iinc 3 1, 3) := by decide +kernel
theorem d_Mo_noteBare_251 : decode (am_Mof y_Mo_noteBare).1 251 = .ok (.goto (-77), 3) := by decide +kernel
theorem d_Mo_noteBare_254 : decode (am_Mof y_Mo_noteBare).1 254 = .ok (.iinc 1 1, 3) := by decide +kernel
theorem d_Mo_noteBare_257 : decode (am_Mof y_Mo_noteBare).1 257 = .ok (.goto (-255), 3) := by decide +kernel
theorem d_Mo_noteBare_260 : decode (am_Mof y_Mo_noteBare).1 260 = .ok (.return_, 1) := by decide +kernel
theorem d_Mo_counted_0 : decode (am_Mof y_Mo_counted).1 0 = .ok (.aload_n 0, 1) := by decide +kernel
theorem d_Mo_counted_1 : decode (am_Mof y_Mo_counted).1 1 = .ok (.getfield 141, 3) := by decide +kernel
theorem d_Mo_counted_4 : decode (am_Mof y_Mo_counted).1 4 = .ok (.ifCond .eq 27, 3) := by decide +kernel
theorem d_Mo_counted_7 : decode (am_Mof y_Mo_counted).1 7 = .ok (.iload_n 1, 1) := by decide +kernel
theorem d_Mo_counted_8 : decode (am_Mof y_Mo_counted).1 8 = .ok (.invokestatic 94, 3) := by decide +kernel
theorem d_Mo_counted_11 : decode (am_Mof y_Mo_counted).1 11 = .ok (.ifCond .eq 20, 3) := by decide +kernel
theorem d_Mo_counted_14 : decode (am_Mof y_Mo_counted).1 14 = .ok (.iload_n 2, 1) := by decide +kernel
theorem d_Mo_counted_15 : decode (am_Mof y_Mo_counted).1 15 = .ok (.invokestatic 102, 3) := by decide +kernel
theorem d_Mo_counted_18 : decode (am_Mof y_Mo_counted).1 18 = .ok (.ifCond .eq 13, 3) := by decide +kernel
theorem d_Mo_counted_21 : decode (am_Mof y_Mo_counted).1 21 = .ok (.iload_n 3, 1) := by decide +kernel
theorem d_Mo_counted_22 : decode (am_Mof y_Mo_counted).1 22 = .ok (.i2l, 1) := by decide +kernel
theorem d_Mo_counted_23 : decode (am_Mof y_Mo_counted).1 23 = .ok (.lconst 0, 1) := by decide +kernel
theorem d_Mo_counted_24 : decode (am_Mof y_Mo_counted).1 24 = .ok (.lconst 1, 1) := by decide +kernel
theorem d_Mo_counted_25 : decode (am_Mof y_Mo_counted).1 25 = .ok (.invokestatic 82, 3) := by decide +kernel
theorem d_Mo_counted_28 : decode (am_Mof y_Mo_counted).1 28 = .ok (.ifCond .ne 7, 3) := by decide +kernel
theorem d_Mo_counted_31 : decode (am_Mof y_Mo_counted).1 31 = .ok (.ldc2_w 172, 3) := by decide +kernel
theorem d_Mo_counted_34 : decode (am_Mof y_Mo_counted).1 34 = .ok (.lreturn, 1) := by decide +kernel
theorem d_Mo_counted_35 : decode (am_Mof y_Mo_counted).1 35 = .ok (.aload_n 0, 1) := by decide +kernel
theorem d_Mo_counted_36 : decode (am_Mof y_Mo_counted).1 36 = .ok (.iload_n 1, 1) := by decide +kernel
theorem d_Mo_counted_37 : decode (am_Mof y_Mo_counted).1 37 = .ok (.iload_n 2, 1) := by decide +kernel
theorem d_Mo_counted_38 : decode (am_Mof y_Mo_counted).1 38 = .ok (.iconst (-1), 1) := by decide +kernel
theorem d_Mo_counted_39 : decode (am_Mof y_Mo_counted).1 39 = .ok (.invokevirtual 174, 3) := by decide +kernel
theorem d_Mo_counted_42 : decode (am_Mof y_Mo_counted).1 42 = .ok (.iload_n 3, 1) := by decide +kernel
theorem d_Mo_counted_43 : decode (am_Mof y_Mo_counted).1 43 = .ok (.ifCond .ne 10, 3) := by decide +kernel
theorem d_Mo_counted_46 : decode (am_Mof y_Mo_counted).1 46 = .ok (.aload_n 0, 1) := by decide +kernel
theorem d_Mo_counted_47 : decode (am_Mof y_Mo_counted).1 47 = .ok (.getfield 154, 3) := by decide +kernel
theorem d_Mo_counted_50 : decode (am_Mof y_Mo_counted).1 50 = .ok (.goto 7, 3) := by decide +kernel
theorem d_Mo_counted_53 : decode (am_Mof y_Mo_counted).1 53 = .ok (.aload_n 0, 1) := by decide +kernel
theorem d_Mo_counted_54 : decode (am_Mof y_Mo_counted).1 54 = .ok (.getfield 158, 3) := by decide +kernel
theorem d_Mo_counted_57 : decode (am_Mof y_Mo_counted).1 57 = .ok (.lreturn, 1) := by decide +kernel
theorem d_Mo_count_0 : decode (am_Mof y_Mo_count).1 0 = .ok (.aload_n 0, 1) := by decide +kernel
theorem d_Mo_count_1 : decode (am_Mof y_Mo_count).1 1 = .ok (.invokevirtual 165, 3) := by decide +kernel
theorem d_Mo_count_4 : decode (am_Mof y_Mo_count).1 4 = .ok (.aload_n 0, 1) := by decide +kernel
theorem d_Mo_count_5 : decode (am_Mof y_Mo_count).1 5 = .ok (.iload_n 1, 1) := by decide +kernel
theorem d_Mo_count_6 : decode (am_Mof y_Mo_count).1 6 = .ok (.iload_n 2, 1) := by decide +kernel
theorem d_Mo_count_7 : decode (am_Mof y_Mo_count).1 7 = .ok (.iload_n 3, 1) := by decide +kernel
theorem d_Mo_count_8 : decode (am_Mof y_Mo_count).1 8 = .ok (.iconst (-1), 1) := by decide +kernel
theorem d_Mo_count_9 : decode (am_Mof y_Mo_count).1 9 = .ok (.invokevirtual 168, 3) := by decide +kernel
theorem d_Mo_count_12 : decode (am_Mof y_Mo_count).1 12 = .ok (.iload_n 1, 1) := by decide +kernel
theorem d_Mo_count_13 : decode (am_Mof y_Mo_count).1 13 = .ok (.iconst 3, 1) := by decide +kernel
theorem d_Mo_count_14 : decode (am_Mof y_Mo_count).1 14 = .ok (.if_icmp .ne 18, 3) := by decide +kernel
theorem d_Mo_count_17 : decode (am_Mof y_Mo_count).1 17 = .ok (.iload_n 3, 1) := by decide +kernel
theorem d_Mo_count_18 : decode (am_Mof y_Mo_count).1 18 = .ok (.ifCond .gt 14, 3) := by decide +kernel
theorem d_Mo_count_21 : decode (am_Mof y_Mo_count).1 21 = .ok (.aload_n 0, 1) := by decide +kernel
theorem d_Mo_count_22 : decode (am_Mof y_Mo_count).1 22 = .ok (.aload_n 0, 1) := by decide +kernel
theorem d_Mo_count_23 : decode (am_Mof y_Mo_count).1 23 = .ok (.getfield 54, 3) := by decide +kernel
theorem d_Mo_count_26 : decode (am_Mof y_Mo_count).1 26 = .ok (.iload_n 2, 1) := by decide +kernel
theorem d_Mo_count_27 : decode (am_Mof y_Mo_count).1 27 = .ok (.laload, 1) := by decide +kernel
theorem d_Mo_count_28 : decode (am_Mof y_Mo_count).1 28 = .ok (.lconst 1, 1) := by decide +kernel
theorem d_Mo_count_29 : decode (am_Mof y_Mo_count).1 29 = .ok (.invokevirtual 161, 3) := by decide +kernel
theorem d_Mo_count_32 : decode (am_Mof y_Mo_count).1 32 = .ok (.return_, 1) := by decide +kernel
theorem d_Mo_nothing_0 : decode (am_Mof y_Mo_nothing).1 0 = .ok (.aload_n 0, 1) := by decide +kernel
theorem d_Mo_nothing_1 : decode (am_Mof y_Mo_nothing).1 1 = .ok (.lconst 0, 1) := by decide +kernel
theorem d_Mo_nothing_2 : decode (am_Mof y_Mo_nothing).1 2 = .ok (.putfield 154, 3) := by decide +kernel
theorem d_Mo_nothing_5 : decode (am_Mof y_Mo_nothing).1 5 = .ok (.aload_n 0, 1) := by decide +kernel
theorem d_Mo_nothing_6 : decode (am_Mof y_Mo_nothing).1 6 = .ok (.lconst 1, 1) := by decide +kernel
theorem d_Mo_nothing_7 : decode (am_Mof y_Mo_nothing).1 7 = .ok (.putfield 158, 3) := by decide +kernel
theorem d_Mo_nothing_10 : decode (am_Mof y_Mo_nothing).1 10 = .ok (.return_, 1) := by decide +kernel
theorem d_Mo_sum_0 : decode (am_Mof y_Mo_sum).1 0 = .ok (.iconst 0, 1) := by decide +kernel
theorem d_Mo_sum_1 : decode (am_Mof y_Mo_sum).1 1 = .ok (.istore 5, 2) := by decide +kernel
theorem d_Mo_sum_3 : decode (am_Mof y_Mo_sum).1 3 = .ok (.iload 5, 2) := by decide +kernel
theorem d_Mo_sum_5 : decode (am_Mof y_Mo_sum).1 5 = .ok (.aload_n 0, 1) := by decide +kernel
theorem d_Mo_sum_6 : decode (am_Mof y_Mo_sum).1 6 = .ok (.getfield 148, 3) := by decide +kernel
theorem d_Mo_sum_9 : decode (am_Mof y_Mo_sum).1 9 = .ok (.if_icmp .ge 139, 3) := by decide +kernel
theorem d_Mo_sum_12 : decode (am_Mof y_Mo_sum).1 12 = .ok (.aload_n 0, 1) := by decide +kernel
theorem d_Mo_sum_13 : decode (am_Mof y_Mo_sum).1 13 = .ok (.getfield 26, 3) := by decide +kernel
theorem d_Mo_sum_16 : decode (am_Mof y_Mo_sum).1 16 = .ok (.iload 5, 2) := by decide +kernel
theorem d_Mo_sum_18 : decode (am_Mof y_Mo_sum).1 18 = .ok (.iaload, 1) := by decide +kernel
theorem d_Mo_sum_19 : decode (am_Mof y_Mo_sum).1 19 = .ok (.iload_n 1, 1) := by decide +kernel
theorem d_Mo_sum_20 : decode (am_Mof y_Mo_sum).1 20 = .ok (.if_icmp .ne 50, 3) := by decide +kernel
theorem d_Mo_sum_23 : decode (am_Mof y_Mo_sum).1 23 = .ok (.aload_n 0, 1) := by decide +kernel
theorem d_Mo_sum_24 : decode (am_Mof y_Mo_sum).1 24 = .ok (.getfield 29, 3) := by decide +kernel
theorem d_Mo_sum_27 : decode (am_Mof y_Mo_sum).1 27 = .ok (.iload 5, 2) := by decide +kernel
theorem d_Mo_sum_29 : decode (am_Mof y_Mo_sum).1 29 = .ok (.iaload, 1) := by decide +kernel
theorem d_Mo_sum_30 : decode (am_Mof y_Mo_sum).1 30 = .ok (.iload_n 2, 1) := by decide +kernel
theorem d_Mo_sum_31 : decode (am_Mof y_Mo_sum).1 31 = .ok (.if_icmp .ne 39, 3) := by decide +kernel
theorem d_Mo_sum_34 : decode (am_Mof y_Mo_sum).1 34 = .ok (.iload_n 3, 1) := by decide +kernel
theorem d_Mo_sum_35 : decode (am_Mof y_Mo_sum).1 35 = .ok (.ifCond .lt 14, 3) := by decide +kernel
theorem d_Mo_sum_38 : decode (am_Mof y_Mo_sum).1 38 = .ok (.aload_n 0, 1) := by decide +kernel
theorem d_Mo_sum_39 : decode (am_Mof y_Mo_sum).1 39 = .ok (.getfield 32, 3) := by decide +kernel
theorem d_Mo_sum_42 : decode (am_Mof y_Mo_sum).1 42 = .ok (.iload 5, 2) := by decide +kernel
theorem d_Mo_sum_44 : decode (am_Mof y_Mo_sum).1 44 = .ok (.iaload, 1) := by decide +kernel
theorem d_Mo_sum_45 : decode (am_Mof y_Mo_sum).1 45 = .ok (.iload_n 3, 1) := by decide +kernel
theorem d_Mo_sum_46 : decode (am_Mof y_Mo_sum).1 46 = .ok (.if_icmp .ne 24, 3) := by decide +kernel
theorem d_Mo_sum_49 : decode (am_Mof y_Mo_sum).1 49 = .ok (.iload 4, 2) := by decide +kernel
theorem d_Mo_sum_51 : decode (am_Mof y_Mo_sum).1 51 = .ok (.ifCond .lt 15, 3) := by decide +kernel
theorem d_Mo_sum_54 : decode (am_Mof y_Mo_sum).1 54 = .ok (.aload_n 0, 1) := by decide +kernel
theorem d_Mo_sum_55 : decode (am_Mof y_Mo_sum).1 55 = .ok (.getfield 23, 3) := by decide +kernel
theorem d_Mo_sum_58 : decode (am_Mof y_Mo_sum).1 58 = .ok (.iload 5, 2) := by decide +kernel
theorem d_Mo_sum_60 : decode (am_Mof y_Mo_sum).1 60 = .ok (.iaload, 1) := by decide +kernel
theorem d_Mo_sum_61 : decode (am_Mof y_Mo_sum).1 61 = .ok (.iload 4, 2) := by decide +kernel
theorem d_Mo_sum_63 : decode (am_Mof y_Mo_sum).1 63 = .ok (.if_icmp .ne 7, 3) := by decide +kernel
theorem d_Mo_sum_66 : decode (am_Mof y_Mo_sum).1 66 = .ok (.iconst 1, 1) := by decide +kernel
theorem d_Mo_sum_67 : decode (am_Mof y_Mo_sum).1 67 = .ok (.goto 4, 3) := by decide +kernel
theorem d_Mo_sum_70 : decode (am_Mof y_Mo_sum).1 70 = .ok (.iconst 0, 1) := by decide +kernel
theorem d_Mo_sum_71 : decode (am_Mof y_Mo_sum).1 71 = .ok (.istore 6, 2) := by decide +kernel
theorem d_Mo_sum_73 : decode (am_Mof y_Mo_sum).1 73 = .ok (.iload 6, 2) := by decide +kernel
theorem d_Mo_sum_75 : decode (am_Mof y_Mo_sum).1 75 = .ok (.ifCond .eq 67, 3) := by decide +kernel
theorem d_Mo_sum_78 : decode (am_Mof y_Mo_sum).1 78 = .ok (.iconst 4, 1) := by decide +kernel
theorem d_Mo_sum_79 : decode (am_Mof y_Mo_sum).1 79 = .ok (.aload_n 0, 1) := by decide +kernel
theorem d_Mo_sum_80 : decode (am_Mof y_Mo_sum).1 80 = .ok (.getfield 23, 3) := by decide +kernel
theorem d_Mo_sum_83 : decode (am_Mof y_Mo_sum).1 83 = .ok (.iload 5, 2) := by decide +kernel
theorem d_Mo_sum_85 : decode (am_Mof y_Mo_sum).1 85 = .ok (.iaload, 1) := by decide +kernel
theorem d_Mo_sum_86 : decode (am_Mof y_Mo_sum).1 86 = .ok (.imul, 1) := by decide +kernel
theorem d_Mo_sum_87 : decode (am_Mof y_Mo_sum).1 87 = .ok (.iload_n 1, 1) := by decide +kernel
theorem d_Mo_sum_88 : decode (am_Mof y_Mo_sum).1 88 = .ok (.iadd, 1) := by decide +kernel
theorem d_Mo_sum_89 : decode (am_Mof y_Mo_sum).1 89 = .ok (.istore 7, 2) := by decide +kernel
theorem d_Mo_sum_91 : decode (am_Mof y_Mo_sum).1 91 = .ok (.aload_n 0, 1) := by decide +kernel
theorem d_Mo_sum_92 : decode (am_Mof y_Mo_sum).1 92 = .ok (.getfield 35, 3) := by decide +kernel
theorem d_Mo_sum_95 : decode (am_Mof y_Mo_sum).1 95 = .ok (.iload 5, 2) := by decide +kernel
theorem d_Mo_sum_97 : decode (am_Mof y_Mo_sum).1 97 = .ok (.laload, 1) := by decide +kernel
theorem d_Mo_sum_98 : decode (am_Mof y_Mo_sum).1 98 = .ok (.aload_n 0, 1) := by decide +kernel
theorem d_Mo_sum_99 : decode (am_Mof y_Mo_sum).1 99 = .ok (.getfield 48, 3) := by decide +kernel
theorem d_Mo_sum_102 : decode (am_Mof y_Mo_sum).1 102 = .ok (.iload 7, 2) := by decide +kernel
theorem d_Mo_sum_104 : decode (am_Mof y_Mo_sum).1 104 = .ok (.laload, 1) := by decide +kernel
theorem d_Mo_sum_105 : decode (am_Mof y_Mo_sum).1 105 = .ok (.invokestatic 114, 3) := by decide +kernel
theorem d_Mo_sum_108 : decode (am_Mof y_Mo_sum).1 108 = .ok (.lstore 8, 2) := by decide +kernel
theorem d_Mo_sum_110 : decode (am_Mof y_Mo_sum).1 110 = .ok (.aload_n 0, 1) := by decide +kernel
theorem d_Mo_sum_111 : decode (am_Mof y_Mo_sum).1 111 = .ok (.aload_n 0, 1) := by decide +kernel
theorem d_Mo_sum_112 : decode (am_Mof y_Mo_sum).1 112 = .ok (.getfield 35, 3) := by decide +kernel
theorem d_Mo_sum_115 : decode (am_Mof y_Mo_sum).1 115 = .ok (.iload 5, 2) := by decide +kernel
theorem d_Mo_sum_117 : decode (am_Mof y_Mo_sum).1 117 = .ok (.laload, 1) := by decide +kernel
theorem d_Mo_sum_118 : decode (am_Mof y_Mo_sum).1 118 = .ok (.lload 8, 2) := by decide +kernel
theorem d_Mo_sum_120 : decode (am_Mof y_Mo_sum).1 120 = .ok (.ldiv, 1) := by decide +kernel
theorem d_Mo_sum_121 : decode (am_Mof y_Mo_sum).1 121 = .ok (.aload_n 0, 1) := by decide +kernel
theorem d_Mo_sum_122 : decode (am_Mof y_Mo_sum).1 122 = .ok (.getfield 45, 3) := by decide +kernel
theorem d_Mo_sum_125 : decode (am_Mof y_Mo_sum).1 125 = .ok (.iload 7, 2) := by decide +kernel
theorem d_Mo_sum_127 : decode (am_Mof y_Mo_sum).1 127 = .ok (.laload, 1) := by decide +kernel
theorem d_Mo_sum_128 : decode (am_Mof y_Mo_sum).1 128 = .ok (.lmul, 1) := by decide +kernel
theorem d_Mo_sum_129 : decode (am_Mof y_Mo_sum).1 129 = .ok (.aload_n 0, 1) := by decide +kernel
theorem d_Mo_sum_130 : decode (am_Mof y_Mo_sum).1 130 = .ok (.getfield 48, 3) := by decide +kernel
theorem d_Mo_sum_133 : decode (am_Mof y_Mo_sum).1 133 = .ok (.iload 7, 2) := by decide +kernel
theorem d_Mo_sum_135 : decode (am_Mof y_Mo_sum).1 135 = .ok (.laload, 1) := by decide +kernel
theorem d_Mo_sum_136 : decode (am_Mof y_Mo_sum).1 136 = .ok (.lload 8, 2) := by decide +kernel
theorem d_Mo_sum_138 : decode (am_Mof y_Mo_sum).1 138 = .ok (.ldiv, 1) := by decide +kernel
theorem d_Mo_sum_139 : decode (am_Mof y_Mo_sum).1 139 = .ok (.invokevirtual 161, 3) := by decide +kernel
theorem d_Mo_sum_142 : decode (am_Mof y_Mo_sum).1 142 = .ok (.iinc 5 1, 3) := by decide +kernel
theorem d_Mo_sum_145 : decode (am_Mof y_Mo_sum).1 145 = .ok (.goto (-142), 3) := by decide +kernel
theorem d_Mo_sum_148 : decode (am_Mof y_Mo_sum).1 148 = .ok (.return_, 1) := by decide +kernel
theorem d_Mo_add_0 : decode (am_Mof y_Mo_add).1 0 = .ok (.aload_n 0, 1) := by decide +kernel
theorem d_Mo_add_1 : decode (am_Mof y_Mo_add).1 1 = .ok (.getfield 158, 3) := by decide +kernel
theorem d_Mo_add_4 : decode (am_Mof y_Mo_add).1 4 = .ok (.aload_n 0, 1) := by decide +kernel
theorem d_Mo_add_5 : decode (am_Mof y_Mo_add).1 5 = .ok (.getfield 158, 3) := by decide +kernel
theorem d_Mo_add_8 : decode (am_Mof y_Mo_add).1 8 = .ok (.lload_n 3, 1) := by decide +kernel
theorem d_Mo_add_9 : decode (am_Mof y_Mo_add).1 9 = .ok (.invokestatic 114, 3) := by decide +kernel
theorem d_Mo_add_12 : decode (am_Mof y_Mo_add).1 12 = .ok (.ldiv, 1) := by decide +kernel
theorem d_Mo_add_13 : decode (am_Mof y_Mo_add).1 13 = .ok (.lload_n 3, 1) := by decide +kernel
theorem d_Mo_add_14 : decode (am_Mof y_Mo_add).1 14 = .ok (.lmul, 1) := by decide +kernel
theorem d_Mo_add_15 : decode (am_Mof y_Mo_add).1 15 = .ok (.lstore 5, 2) := by decide +kernel
theorem d_Mo_add_17 : decode (am_Mof y_Mo_add).1 17 = .ok (.aload_n 0, 1) := by decide +kernel
theorem d_Mo_add_18 : decode (am_Mof y_Mo_add).1 18 = .ok (.getfield 154, 3) := by decide +kernel
theorem d_Mo_add_21 : decode (am_Mof y_Mo_add).1 21 = .ok (.lload 5, 2) := by decide +kernel
theorem d_Mo_add_23 : decode (am_Mof y_Mo_add).1 23 = .ok (.aload_n 0, 1) := by decide +kernel
theorem d_Mo_add_24 : decode (am_Mof y_Mo_add).1 24 = .ok (.getfield 158, 3) := by decide +kernel
theorem d_Mo_add_27 : decode (am_Mof y_Mo_add).1 27 = .ok (.ldiv, 1) := by decide +kernel
theorem d_Mo_add_28 : decode (am_Mof y_Mo_add).1 28 = .ok (.lmul, 1) := by decide +kernel
theorem d_Mo_add_29 : decode (am_Mof y_Mo_add).1 29 = .ok (.lload_n 1, 1) := by decide +kernel
theorem d_Mo_add_30 : decode (am_Mof y_Mo_add).1 30 = .ok (.lload 5, 2) := by decide +kernel
theorem d_Mo_add_32 : decode (am_Mof y_Mo_add).1 32 = .ok (.lload_n 3, 1) := by decide +kernel
theorem d_Mo_add_33 : decode (am_Mof y_Mo_add).1 33 = .ok (.ldiv, 1) := by decide +kernel
theorem d_Mo_add_34 : decode (am_Mof y_Mo_add).1 34 = .ok (.lmul, 1) := by decide +kernel
theorem d_Mo_add_35 : decode (am_Mof y_Mo_add).1 35 = .ok (.ladd, 1) := by decide +kernel
theorem d_Mo_add_36 : decode (am_Mof y_Mo_add).1 36 = .ok (.lstore 7, 2) := by decide +kernel
theorem d_Mo_add_38 : decode (am_Mof y_Mo_add).1 38 = .ok (.lload 7, 2) := by decide +kernel
theorem d_Mo_add_40 : decode (am_Mof y_Mo_add).1 40 = .ok (.lload 5, 2) := by decide +kernel
theorem d_Mo_add_42 : decode (am_Mof y_Mo_add).1 42 = .ok (.invokestatic 114, 3) := by decide +kernel
theorem d_Mo_add_45 : decode (am_Mof y_Mo_add).1 45 = .ok (.lstore 9, 2) := by decide +kernel
theorem d_Mo_add_47 : decode (am_Mof y_Mo_add).1 47 = .ok (.aload_n 0, 1) := by decide +kernel
theorem d_Mo_add_48 : decode (am_Mof y_Mo_add).1 48 = .ok (.lload 7, 2) := by decide +kernel
theorem d_Mo_add_50 : decode (am_Mof y_Mo_add).1 50 = .ok (.lload 9, 2) := by decide +kernel
theorem d_Mo_add_52 : decode (am_Mof y_Mo_add).1 52 = .ok (.ldiv, 1) := by decide +kernel
theorem d_Mo_add_53 : decode (am_Mof y_Mo_add).1 53 = .ok (.putfield 154, 3) := by decide +kernel
theorem d_Mo_add_56 : decode (am_Mof y_Mo_add).1 56 = .ok (.aload_n 0, 1) := by decide +kernel
theorem d_Mo_add_57 : decode (am_Mof y_Mo_add).1 57 = .ok (.lload 5, 2) := by decide +kernel
theorem d_Mo_add_59 : decode (am_Mof y_Mo_add).1 59 = .ok (.lload 9, 2) := by decide +kernel
theorem d_Mo_add_61 : decode (am_Mof y_Mo_add).1 61 = .ok (.ldiv, 1) := by decide +kernel
theorem d_Mo_add_62 : decode (am_Mof y_Mo_add).1 62 = .ok (.putfield 158, 3) := by decide +kernel
theorem d_Mo_add_65 : decode (am_Mof y_Mo_add).1 65 = .ok (.return_, 1) := by decide +kernel
theorem d_Mo_rate_0 : decode (am_Mof y_Mo_rate).1 0 = .ok (.aload_n 0, 1) := by decide +kernel
theorem d_Mo_rate_1 : decode (am_Mof y_Mo_rate).1 1 = .ok (.getfield 141, 3) := by decide +kernel
theorem d_Mo_rate_4 : decode (am_Mof y_Mo_rate).1 4 = .ok (.ifCond .eq 27, 3) := by decide +kernel
theorem d_Mo_rate_7 : decode (am_Mof y_Mo_rate).1 7 = .ok (.iload_n 1, 1) := by decide +kernel
theorem d_Mo_rate_8 : decode (am_Mof y_Mo_rate).1 8 = .ok (.invokestatic 94, 3) := by decide +kernel
theorem d_Mo_rate_11 : decode (am_Mof y_Mo_rate).1 11 = .ok (.ifCond .eq 20, 3) := by decide +kernel
theorem d_Mo_rate_14 : decode (am_Mof y_Mo_rate).1 14 = .ok (.iload_n 2, 1) := by decide +kernel
theorem d_Mo_rate_15 : decode (am_Mof y_Mo_rate).1 15 = .ok (.invokestatic 102, 3) := by decide +kernel
theorem d_Mo_rate_18 : decode (am_Mof y_Mo_rate).1 18 = .ok (.ifCond .eq 13, 3) := by decide +kernel
theorem d_Mo_rate_21 : decode (am_Mof y_Mo_rate).1 21 = .ok (.iload_n 3, 1) := by decide +kernel
theorem d_Mo_rate_22 : decode (am_Mof y_Mo_rate).1 22 = .ok (.i2l, 1) := by decide +kernel
theorem d_Mo_rate_23 : decode (am_Mof y_Mo_rate).1 23 = .ok (.lconst 0, 1) := by decide +kernel
theorem d_Mo_rate_24 : decode (am_Mof y_Mo_rate).1 24 = .ok (.lconst 1, 1) := by decide +kernel
theorem d_Mo_rate_25 : decode (am_Mof y_Mo_rate).1 25 = .ok (.invokestatic 82, 3) := by decide +kernel
theorem d_Mo_rate_28 : decode (am_Mof y_Mo_rate).1 28 = .ok (.ifCond .ne 7, 3) := by decide +kernel
theorem d_Mo_rate_31 : decode (am_Mof y_Mo_rate).1 31 = .ok (.ldc2_w 172, 3) := by decide +kernel
theorem d_Mo_rate_34 : decode (am_Mof y_Mo_rate).1 34 = .ok (.lreturn, 1) := by decide +kernel
theorem d_Mo_rate_35 : decode (am_Mof y_Mo_rate).1 35 = .ok (.aload_n 0, 1) := by decide +kernel
theorem d_Mo_rate_36 : decode (am_Mof y_Mo_rate).1 36 = .ok (.getfield 42, 3) := by decide +kernel
theorem d_Mo_rate_39 : decode (am_Mof y_Mo_rate).1 39 = .ok (.bipush 10, 2) := by decide +kernel
theorem d_Mo_rate_41 : decode (am_Mof y_Mo_rate).1 41 = .ok (.iload_n 1, 1) := by decide +kernel
theorem d_Mo_rate_42 : decode (am_Mof y_Mo_rate).1 42 = .ok (.imul, 1) := by decide +kernel
theorem d_Mo_rate_43 : decode (am_Mof y_Mo_rate).1 43 = .ok (.iload_n 2, 1) := by decide +kernel
theorem d_Mo_rate_44 : decode (am_Mof y_Mo_rate).1 44 = .ok (.iadd, 1) := by decide +kernel
theorem d_Mo_rate_45 : decode (am_Mof y_Mo_rate).1 45 = .ok (.laload, 1) := by decide +kernel
theorem d_Mo_rate_46 : decode (am_Mof y_Mo_rate).1 46 = .ok (.lstore 4, 2) := by decide +kernel
theorem d_Mo_rate_48 : decode (am_Mof y_Mo_rate).1 48 = .ok (.lload 4, 2) := by decide +kernel
theorem d_Mo_rate_50 : decode (am_Mof y_Mo_rate).1 50 = .ok (.lconst 0, 1) := by decide +kernel
theorem d_Mo_rate_51 : decode (am_Mof y_Mo_rate).1 51 = .ok (.lcmp, 1) := by decide +kernel
theorem d_Mo_rate_52 : decode (am_Mof y_Mo_rate).1 52 = .ok (.ifCond .ne 5, 3) := by decide +kernel
theorem d_Mo_rate_55 : decode (am_Mof y_Mo_rate).1 55 = .ok (.lconst 0, 1) := by decide +kernel
theorem d_Mo_rate_56 : decode (am_Mof y_Mo_rate).1 56 = .ok (.lreturn, 1) := by decide +kernel
theorem d_Mo_rate_57 : decode (am_Mof y_Mo_rate).1 57 = .ok (.aload_n 0, 1) := by decide +kernel
theorem d_Mo_rate_58 : decode (am_Mof y_Mo_rate).1 58 = .ok (.iload_n 1, 1) := by decide +kernel
theorem d_Mo_rate_59 : decode (am_Mof y_Mo_rate).1 59 = .ok (.iload_n 2, 1) := by decide +kernel
theorem d_Mo_rate_60 : decode (am_Mof y_Mo_rate).1 60 = .ok (.iconst 0, 1) := by decide +kernel
theorem d_Mo_rate_61 : decode (am_Mof y_Mo_rate).1 61 = .ok (.invokevirtual 174, 3) := by decide +kernel
theorem d_Mo_rate_64 : decode (am_Mof y_Mo_rate).1 64 = .ok (.aload_n 0, 1) := by decide +kernel
theorem d_Mo_rate_65 : decode (am_Mof y_Mo_rate).1 65 = .ok (.getfield 154, 3) := by decide +kernel
theorem d_Mo_rate_68 : decode (am_Mof y_Mo_rate).1 68 = .ok (.lload 4, 2) := by decide +kernel
theorem d_Mo_rate_70 : decode (am_Mof y_Mo_rate).1 70 = .ok (.invokestatic 114, 3) := by decide +kernel
theorem d_Mo_rate_73 : decode (am_Mof y_Mo_rate).1 73 = .ok (.lstore 6, 2) := by decide +kernel
theorem d_Mo_rate_75 : decode (am_Mof y_Mo_rate).1 75 = .ok (.aload_n 0, 1) := by decide +kernel
theorem d_Mo_rate_76 : decode (am_Mof y_Mo_rate).1 76 = .ok (.getfield 154, 3) := by decide +kernel
theorem d_Mo_rate_79 : decode (am_Mof y_Mo_rate).1 79 = .ok (.lload 6, 2) := by decide +kernel
theorem d_Mo_rate_81 : decode (am_Mof y_Mo_rate).1 81 = .ok (.ldiv, 1) := by decide +kernel
theorem d_Mo_rate_82 : decode (am_Mof y_Mo_rate).1 82 = .ok (.lstore 8, 2) := by decide +kernel
theorem d_Mo_rate_84 : decode (am_Mof y_Mo_rate).1 84 = .ok (.lload 4, 2) := by decide +kernel
theorem d_Mo_rate_86 : decode (am_Mof y_Mo_rate).1 86 = .ok (.lload 6, 2) := by decide +kernel
theorem d_Mo_rate_88 : decode (am_Mof y_Mo_rate).1 88 = .ok (.ldiv, 1) := by decide +kernel
theorem d_Mo_rate_89 : decode (am_Mof y_Mo_rate).1 89 = .ok (.aload_n 0, 1) := by decide +kernel
theorem d_Mo_rate_90 : decode (am_Mof y_Mo_rate).1 90 = .ok (.getfield 158, 3) := by decide +kernel
theorem d_Mo_rate_93 : decode (am_Mof y_Mo_rate).1 93 = .ok (.lmul, 1) := by decide +kernel
theorem d_Mo_rate_94 : decode (am_Mof y_Mo_rate).1 94 = .ok (.lstore 10, 2) := by decide +kernel
theorem d_Mo_rate_96 : decode (am_Mof y_Mo_rate).1 96 = .ok (.iload_n 3, 1) := by decide +kernel
theorem d_Mo_rate_97 : decode (am_Mof y_Mo_rate).1 97 = .ok (.ifCond .ne 8, 3) := by decide +kernel
theorem d_Mo_rate_100 : decode (am_Mof y_Mo_rate).1 100 = .ok (.lload 8, 2) := by decide +kernel
theorem d_Mo_rate_102 : decode (am_Mof y_Mo_rate).1 102 = .ok (.goto 5, 3) := by decide +kernel
theorem d_Mo_rate_105 : decode (am_Mof y_Mo_rate).1 105 = .ok (.lload 10, 2) := by decide +kernel
theorem d_Mo_rate_107 : decode (am_Mof y_Mo_rate).1 107 = .ok (.lreturn, 1) := by decide +kernel
theorem d_Mo_twice_0 : decode (am_Mof y_Mo_twice).1 0 = .ok (.iconst 0, 1) := by decide +kernel
theorem d_Mo_twice_1 : decode (am_Mof y_Mo_twice).1 1 = .ok (.istore_n 2, 1) := by decide +kernel
theorem d_Mo_twice_2 : decode (am_Mof y_Mo_twice).1 2 = .ok (.iconst 0, 1) := by decide +kernel
theorem d_Mo_twice_3 : decode (am_Mof y_Mo_twice).1 3 = .ok (.istore_n 3, 1) := by decide +kernel
theorem d_Mo_twice_4 : decode (am_Mof y_Mo_twice).1 4 = .ok (.iload_n 3, 1) := by decide +kernel
theorem d_Mo_twice_5 : decode (am_Mof y_Mo_twice).1 5 = .ok (.iconst 4, 1) := by decide +kernel
theorem d_Mo_twice_6 : decode (am_Mof y_Mo_twice).1 6 = .ok (.aload_n 0, 1) := by decide +kernel
theorem d_Mo_twice_7 : decode (am_Mof y_Mo_twice).1 7 = .ok (.getfield 72, 3) := by decide +kernel
theorem d_Mo_twice_10 : decode (am_Mof y_Mo_twice).1 10 = .ok (.imul, 1) := by decide +kernel
theorem d_Mo_twice_11 : decode (am_Mof y_Mo_twice).1 11 = .ok (.if_icmp .ge 39, 3) := by decide +kernel
theorem d_Mo_twice_14 : decode (am_Mof y_Mo_twice).1 14 = .ok (.aload_n 0, 1) := by decide +kernel
theorem d_Mo_twice_15 : decode (am_Mof y_Mo_twice).1 15 = .ok (.getfield 13, 3) := by decide +kernel
theorem d_Mo_twice_18 : decode (am_Mof y_Mo_twice).1 18 = .ok (.iload_n 3, 1) := by decide +kernel
theorem d_Mo_twice_19 : decode (am_Mof y_Mo_twice).1 19 = .ok (.baload, 1) := by decide +kernel
theorem d_Mo_twice_20 : decode (am_Mof y_Mo_twice).1 20 = .ok (.ifCond .eq 24, 3) := by decide +kernel
theorem d_Mo_twice_23 : decode (am_Mof y_Mo_twice).1 23 = .ok (.aload_n 0, 1) := by decide +kernel
theorem d_Mo_twice_24 : decode (am_Mof y_Mo_twice).1 24 = .ok (.getfield 17, 3) := by decide +kernel
theorem d_Mo_twice_27 : decode (am_Mof y_Mo_twice).1 27 = .ok (.iload_n 3, 1) := by decide +kernel
theorem d_Mo_twice_28 : decode (am_Mof y_Mo_twice).1 28 = .ok (.iconst 4, 1) := by decide +kernel
theorem d_Mo_twice_29 : decode (am_Mof y_Mo_twice).1 29 = .ok (.idiv, 1) := by decide +kernel
theorem d_Mo_twice_30 : decode (am_Mof y_Mo_twice).1 30 = .ok (.baload, 1) := by decide +kernel
theorem d_Mo_twice_31 : decode (am_Mof y_Mo_twice).1 31 = .ok (.ifCond .eq 13, 3) := by decide +kernel
theorem d_Mo_twice_34 : decode (am_Mof y_Mo_twice).1 34 = .ok (.iload_n 2, 1) := by decide +kernel
theorem d_Mo_twice_35 : decode (am_Mof y_Mo_twice).1 35 = .ok (.iload_n 1, 1) := by decide +kernel
theorem d_Mo_twice_36 : decode (am_Mof y_Mo_twice).1 36 = .ok (.if_icmp .ne 5, 3) := by decide +kernel
theorem d_Mo_twice_39 : decode (am_Mof y_Mo_twice).1 39 = .ok (.iload_n 3, 1) := by decide +kernel
theorem d_Mo_twice_40 : decode (am_Mof y_Mo_twice).1 40 = .ok (.ireturn, 1) := by decide +kernel
theorem d_Mo_twice_41 : decode (am_Mof y_Mo_twice).1 41 = .ok (.iinc 2 1, 3) := by decide +kernel
theorem d_Mo_twice_44 : decode (am_Mof y_Mo_twice).1 44 = .ok (.iinc 3 1, 3) := by decide +kernel
theorem d_Mo_twice_47 : decode (am_Mof y_Mo_twice).1 47 = .ok (.goto (-43), 3) := by decide +kernel
theorem d_Mo_twice_50 : decode (am_Mof y_Mo_twice).1 50 = .ok (.iconst (-1), 1) := by decide +kernel
theorem d_Mo_twice_51 : decode (am_Mof y_Mo_twice).1 51 = .ok (.ireturn, 1) := by decide +kernel
theorem d_Mo_told_0 : decode (am_Mof y_Mo_told).1 0 = .ok (.iconst 0, 1) := by decide +kernel
theorem d_Mo_told_1 : decode (am_Mof y_Mo_told).1 1 = .ok (.istore_n 2, 1) := by decide +kernel
theorem d_Mo_told_2 : decode (am_Mof y_Mo_told).1 2 = .ok (.iconst 0, 1) := by decide +kernel
theorem d_Mo_told_3 : decode (am_Mof y_Mo_told).1 3 = .ok (.istore_n 3, 1) := by decide +kernel
theorem d_Mo_told_4 : decode (am_Mof y_Mo_told).1 4 = .ok (.iload_n 3, 1) := by decide +kernel
theorem d_Mo_told_5 : decode (am_Mof y_Mo_told).1 5 = .ok (.aload_n 0, 1) := by decide +kernel
theorem d_Mo_told_6 : decode (am_Mof y_Mo_told).1 6 = .ok (.getfield 145, 3) := by decide +kernel
theorem d_Mo_told_9 : decode (am_Mof y_Mo_told).1 9 = .ok (.if_icmp .ge 75, 3) := by decide +kernel
theorem d_Mo_told_12 : decode (am_Mof y_Mo_told).1 12 = .ok (.aload_n 0, 1) := by decide +kernel
theorem d_Mo_told_13 : decode (am_Mof y_Mo_told).1 13 = .ok (.getfield 141, 3) := by decide +kernel
theorem d_Mo_told_16 : decode (am_Mof y_Mo_told).1 16 = .ok (.ifCond .eq 68, 3) := by decide +kernel
theorem d_Mo_told_19 : decode (am_Mof y_Mo_told).1 19 = .ok (.iconst 0, 1) := by decide +kernel
theorem d_Mo_told_20 : decode (am_Mof y_Mo_told).1 20 = .ok (.istore 4, 2) := by decide +kernel
theorem d_Mo_told_22 : decode (am_Mof y_Mo_told).1 22 = .ok (.iconst 0, 1) := by decide +kernel
theorem d_Mo_told_23 : decode (am_Mof y_Mo_told).1 23 = .ok (.istore 5, 2) := by decide +kernel
theorem d_Mo_told_25 : decode (am_Mof y_Mo_told).1 25 = .ok (.iload 5, 2) := by decide +kernel
theorem d_Mo_told_27 : decode (am_Mof y_Mo_told).1 27 = .ok (.iconst 4, 1) := by decide +kernel
theorem d_Mo_told_28 : decode (am_Mof y_Mo_told).1 28 = .ok (.if_icmp .ge 35, 3) := by decide +kernel
theorem d_Mo_told_31 : decode (am_Mof y_Mo_told).1 31 = .ok (.iload 4, 2) := by decide +kernel
theorem d_Mo_told_33 : decode (am_Mof y_Mo_told).1 33 = .ok (.ifCond .ne 17, 3) := by decide +kernel
theorem d_Mo_told_36 : decode (am_Mof y_Mo_told).1 36 = .ok (.aload_n 0, 1) := by decide +kernel
theorem d_Mo_told_37 : decode (am_Mof y_Mo_told).1 37 = .ok (.getfield 51, 3) := by decide +kernel
theorem d_Mo_told_40 : decode (am_Mof y_Mo_told).1 40 = .ok (.iconst 4, 1) := by decide +kernel
theorem d_Mo_told_41 : decode (am_Mof y_Mo_told).1 41 = .ok (.iload_n 3, 1) := by decide +kernel
theorem d_Mo_told_42 : decode (am_Mof y_Mo_told).1 42 = .ok (.imul, 1) := by decide +kernel
theorem d_Mo_told_43 : decode (am_Mof y_Mo_told).1 43 = .ok (.iload 5, 2) := by decide +kernel
theorem d_Mo_told_45 : decode (am_Mof y_Mo_told).1 45 = .ok (.iadd, 1) := by decide +kernel
theorem d_Mo_told_46 : decode (am_Mof y_Mo_told).1 46 = .ok (.baload, 1) := by decide +kernel
theorem d_Mo_told_47 : decode (am_Mof y_Mo_told).1 47 = .ok (.ifCond .eq 7, 3) := by decide +kernel
theorem d_Mo_told_50 : decode (am_Mof y_Mo_told).1 50 = .ok (.iconst 1, 1) := by decide +kernel
theorem d_Mo_told_51 : decode (am_Mof y_Mo_told).1 51 = .ok (.goto 4, 3) := by decide +kernel
theorem d_Mo_told_54 : decode (am_Mof y_Mo_told).1 54 = .ok (.iconst 0, 1) := by decide +kernel
theorem d_Mo_told_55 : decode (am_Mof y_Mo_told).1 55 = .ok (.istore 4, 2) := by decide +kernel
theorem d_Mo_told_57 : decode (am_Mof y_Mo_told).1 57 = .ok (.iinc 5 1, 3) := by decide +kernel
theorem d_Mo_told_60 : decode (am_Mof y_Mo_told).1 60 = .ok (.goto (-35), 3) := by decide +kernel
theorem d_Mo_told_63 : decode (am_Mof y_Mo_told).1 63 = .ok (.iload 4, 2) := by decide +kernel
theorem d_Mo_told_65 : decode (am_Mof y_Mo_told).1 65 = .ok (.ifCond .eq 13, 3) := by decide +kernel
theorem d_Mo_told_68 : decode (am_Mof y_Mo_told).1 68 = .ok (.iload_n 2, 1) := by decide +kernel
theorem d_Mo_told_69 : decode (am_Mof y_Mo_told).1 69 = .ok (.iload_n 1, 1) := by decide +kernel
theorem d_Mo_told_70 : decode (am_Mof y_Mo_told).1 70 = .ok (.if_icmp .ne 5, 3) := by decide +kernel
theorem d_Mo_told_73 : decode (am_Mof y_Mo_told).1 73 = .ok (.iload_n 3, 1) := by decide +kernel
theorem d_Mo_told_74 : decode (am_Mof y_Mo_told).1 74 = .ok (.ireturn, 1) := by decide +kernel
theorem d_Mo_told_75 : decode (am_Mof y_Mo_told).1 75 = .ok (.iinc 2 1, 3) := by decide +kernel
theorem d_Mo_told_78 : decode (am_Mof y_Mo_told).1 78 = .ok (.iinc 3 1, 3) := by decide +kernel
theorem d_Mo_told_81 : decode (am_Mof y_Mo_told).1 81 = .ok (.goto (-77), 3) := by decide +kernel
theorem d_Mo_told_84 : decode (am_Mof y_Mo_told).1 84 = .ok (.iconst (-1), 1) := by decide +kernel
theorem d_Mo_told_85 : decode (am_Mof y_Mo_told).1 85 = .ok (.ireturn, 1) := by decide +kernel
theorem d_Mo_once_0 : decode (am_Mof y_Mo_once).1 0 = .ok (.iconst 1, 1) := by decide +kernel
theorem d_Mo_once_1 : decode (am_Mof y_Mo_once).1 1 = .ok (.istore_n 1, 1) := by decide +kernel
theorem d_Mo_once_2 : decode (am_Mof y_Mo_once).1 2 = .ok (.iconst 0, 1) := by decide +kernel
theorem d_Mo_once_3 : decode (am_Mof y_Mo_once).1 3 = .ok (.istore_n 2, 1) := by decide +kernel
theorem d_Mo_once_4 : decode (am_Mof y_Mo_once).1 4 = .ok (.iload_n 2, 1) := by decide +kernel
theorem d_Mo_once_5 : decode (am_Mof y_Mo_once).1 5 = .ok (.iconst 4, 1) := by decide +kernel
theorem d_Mo_once_6 : decode (am_Mof y_Mo_once).1 6 = .ok (.if_icmp .ge 135, 3) := by decide +kernel
theorem d_Mo_once_9 : decode (am_Mof y_Mo_once).1 9 = .ok (.aload_n 0, 1) := by decide +kernel
theorem d_Mo_once_10 : decode (am_Mof y_Mo_once).1 10 = .ok (.getfield 141, 3) := by decide +kernel
theorem d_Mo_once_13 : decode (am_Mof y_Mo_once).1 13 = .ok (.ifCond .eq 128, 3) := by decide +kernel
theorem d_Mo_once_16 : decode (am_Mof y_Mo_once).1 16 = .ok (.iconst 0, 1) := by decide +kernel
theorem d_Mo_once_17 : decode (am_Mof y_Mo_once).1 17 = .ok (.istore_n 3, 1) := by decide +kernel
theorem d_Mo_once_18 : decode (am_Mof y_Mo_once).1 18 = .ok (.iload_n 3, 1) := by decide +kernel
theorem d_Mo_once_19 : decode (am_Mof y_Mo_once).1 19 = .ok (.bipush 10, 2) := by decide +kernel
theorem d_Mo_once_21 : decode (am_Mof y_Mo_once).1 21 = .ok (.if_icmp .ge 114, 3) := by decide +kernel
theorem d_Mo_once_24 : decode (am_Mof y_Mo_once).1 24 = .ok (.iload_n 2, 1) := by decide +kernel
theorem d_Mo_once_25 : decode (am_Mof y_Mo_once).1 25 = .ok (.iconst 3, 1) := by decide +kernel
theorem d_Mo_once_26 : decode (am_Mof y_Mo_once).1 26 = .ok (.if_icmp .ne 12, 3) := by decide +kernel
theorem d_Mo_once_29 : decode (am_Mof y_Mo_once).1 29 = .ok (.aload_n 0, 1) := by decide +kernel
theorem d_Mo_once_30 : decode (am_Mof y_Mo_once).1 30 = .ok (.getfield 54, 3) := by decide +kernel
theorem d_Mo_once_33 : decode (am_Mof y_Mo_once).1 33 = .ok (.iload_n 3, 1) := by decide +kernel
theorem d_Mo_once_34 : decode (am_Mof y_Mo_once).1 34 = .ok (.laload, 1) := by decide +kernel
theorem d_Mo_once_35 : decode (am_Mof y_Mo_once).1 35 = .ok (.goto 4, 3) := by decide +kernel
theorem d_Mo_once_38 : decode (am_Mof y_Mo_once).1 38 = .ok (.lconst 0, 1) := by decide +kernel
theorem d_Mo_once_39 : decode (am_Mof y_Mo_once).1 39 = .ok (.lstore 4, 2) := by decide +kernel
theorem d_Mo_once_41 : decode (am_Mof y_Mo_once).1 41 = .ok (.iconst 0, 1) := by decide +kernel
theorem d_Mo_once_42 : decode (am_Mof y_Mo_once).1 42 = .ok (.istore 6, 2) := by decide +kernel
theorem d_Mo_once_44 : decode (am_Mof y_Mo_once).1 44 = .ok (.iload 6, 2) := by decide +kernel
theorem d_Mo_once_46 : decode (am_Mof y_Mo_once).1 46 = .ok (.aload_n 0, 1) := by decide +kernel
theorem d_Mo_once_47 : decode (am_Mof y_Mo_once).1 47 = .ok (.getfield 148, 3) := by decide +kernel
theorem d_Mo_once_50 : decode (am_Mof y_Mo_once).1 50 = .ok (.if_icmp .ge 47, 3) := by decide +kernel
theorem d_Mo_once_53 : decode (am_Mof y_Mo_once).1 53 = .ok (.lload 4, 2) := by decide +kernel
theorem d_Mo_once_55 : decode (am_Mof y_Mo_once).1 55 = .ok (.aload_n 0, 1) := by decide +kernel
theorem d_Mo_once_56 : decode (am_Mof y_Mo_once).1 56 = .ok (.getfield 26, 3) := by decide +kernel
theorem d_Mo_once_59 : decode (am_Mof y_Mo_once).1 59 = .ok (.iload 6, 2) := by decide +kernel
theorem d_Mo_once_61 : decode (am_Mof y_Mo_once).1 61 = .ok (.iaload, 1) := by decide +kernel
theorem d_Mo_once_62 : decode (am_Mof y_Mo_once).1 62 = .ok (.iload_n 2, 1) := by decide +kernel
theorem d_Mo_once_63 : decode (am_Mof y_Mo_once).1 63 = .ok (.if_icmp .ne 24, 3) := by decide +kernel
theorem d_Mo_once_66 : decode (am_Mof y_Mo_once).1 66 = .ok (.aload_n 0, 1) := by decide +kernel
theorem d_Mo_once_67 : decode (am_Mof y_Mo_once).1 67 = .ok (.getfield 29, 3) := by decide +kernel
theorem d_Mo_once_70 : decode (am_Mof y_Mo_once).1 70 = .ok (.iload 6, 2) := by decide +kernel
theorem d_Mo_once_72 : decode (am_Mof y_Mo_once).1 72 = .ok (.iaload, 1) := by decide +kernel
theorem d_Mo_once_73 : decode (am_Mof y_Mo_once).1 73 = .ok (.iload_n 3, 1) := by decide +kernel
theorem d_Mo_once_74 : decode (am_Mof y_Mo_once).1 74 = .ok (.if_icmp .ne 13, 3) := by decide +kernel
theorem d_Mo_once_77 : decode (am_Mof y_Mo_once).1 77 = .ok (.aload_n 0, 1) := by decide +kernel
theorem d_Mo_once_78 : decode (am_Mof y_Mo_once).1 78 = .ok (.getfield 35, 3) := by decide +kernel
theorem d_Mo_once_81 : decode (am_Mof y_Mo_once).1 81 = .ok (.iload 6, 2) := by decide +kernel
theorem d_Mo_once_83 : decode (am_Mof y_Mo_once).1 83 = .ok (.laload, 1) := by decide +kernel
theorem d_Mo_once_84 : decode (am_Mof y_Mo_once).1 84 = .ok (.goto 4, 3) := by decide +kernel
theorem d_Mo_once_87 : decode (am_Mof y_Mo_once).1 87 = .ok (.lconst 0, 1) := by decide +kernel
theorem d_Mo_once_88 : decode (am_Mof y_Mo_once).1 88 = .ok (.ladd, 1) := by decide +kernel
theorem d_Mo_once_89 : decode (am_Mof y_Mo_once).1 89 = .ok (.lstore 4, 2) := by decide +kernel
theorem d_Mo_once_91 : decode (am_Mof y_Mo_once).1 91 = .ok (.iinc 6 1, 3) := by decide +kernel
theorem d_Mo_once_94 : decode (am_Mof y_Mo_once).1 94 = .ok (.goto (-50), 3) := by decide +kernel
theorem d_Mo_once_97 : decode (am_Mof y_Mo_once).1 97 = .ok (.aload_n 0, 1) := by decide +kernel
theorem d_Mo_once_98 : decode (am_Mof y_Mo_once).1 98 = .ok (.iload_n 2, 1) := by decide +kernel
theorem d_Mo_once_99 : decode (am_Mof y_Mo_once).1 99 = .ok (.iload_n 3, 1) := by decide +kernel
theorem d_Mo_once_100 : decode (am_Mof y_Mo_once).1 100 = .ok (.iconst (-1), 1) := by decide +kernel
theorem d_Mo_once_101 : decode (am_Mof y_Mo_once).1 101 = .ok (.invokevirtual 174, 3) := by decide +kernel
theorem d_Mo_once_104 : decode (am_Mof y_Mo_once).1 104 = .ok (.iload_n 1, 1) := by decide +kernel
theorem d_Mo_once_105 : decode (am_Mof y_Mo_once).1 105 = .ok (.ifCond .eq 22, 3) := by decide +kernel
theorem d_Mo_once_108 : decode (am_Mof y_Mo_once).1 108 = .ok (.aload_n 0, 1) := by decide +kernel
theorem d_Mo_once_109 : decode (am_Mof y_Mo_once).1 109 = .ok (.getfield 154, 3) := by decide +kernel
theorem d_Mo_once_112 : decode (am_Mof y_Mo_once).1 112 = .ok (.lload 4, 2) := by decide +kernel
theorem d_Mo_once_114 : decode (am_Mof y_Mo_once).1 114 = .ok (.aload_n 0, 1) := by decide +kernel
theorem d_Mo_once_115 : decode (am_Mof y_Mo_once).1 115 = .ok (.getfield 158, 3) := by decide +kernel
theorem d_Mo_once_118 : decode (am_Mof y_Mo_once).1 118 = .ok (.lmul, 1) := by decide +kernel
theorem d_Mo_once_119 : decode (am_Mof y_Mo_once).1 119 = .ok (.lcmp, 1) := by decide +kernel
theorem d_Mo_once_120 : decode (am_Mof y_Mo_once).1 120 = .ok (.ifCond .gt 7, 3) := by decide +kernel
theorem d_Mo_once_123 : decode (am_Mof y_Mo_once).1 123 = .ok (.iconst 1, 1) := by decide +kernel
theorem d_Mo_once_124 : decode (am_Mof y_Mo_once).1 124 = .ok (.goto 4, 3) := by decide +kernel
theorem d_Mo_once_127 : decode (am_Mof y_Mo_once).1 127 = .ok (.iconst 0, 1) := by decide +kernel
theorem d_Mo_once_128 : decode (am_Mof y_Mo_once).1 128 = .ok (.istore_n 1, 1) := by decide +kernel
theorem d_Mo_once_129 : decode (am_Mof y_Mo_once).1 129 = .ok (.iinc 3 1, 3) := by decide +kernel
theorem d_Mo_once_132 : decode (am_Mof y_Mo_once).1 132 = .ok (.goto (-114), 3) := by decide +kernel
theorem d_Mo_once_135 : decode (am_Mof y_Mo_once).1 135 = .ok (.iinc 2 1, 3) := by decide +kernel
theorem d_Mo_once_138 : decode (am_Mof y_Mo_once).1 138 = .ok (.goto (-134), 3) := by decide +kernel
theorem d_Mo_once_141 : decode (am_Mof y_Mo_once).1 141 = .ok (.iload_n 1, 1) := by decide +kernel
theorem d_Mo_once_142 : decode (am_Mof y_Mo_once).1 142 = .ok (.ireturn, 1) := by decide +kernel
theorem d_Mo_left_0 : decode (am_Mof y_Mo_left).1 0 = .ok (.aload_n 0, 1) := by decide +kernel
theorem d_Mo_left_1 : decode (am_Mof y_Mo_left).1 1 = .ok (.getfield 141, 3) := by decide +kernel
theorem d_Mo_left_4 : decode (am_Mof y_Mo_left).1 4 = .ok (.ifCond .eq 34, 3) := by decide +kernel
theorem d_Mo_left_7 : decode (am_Mof y_Mo_left).1 7 = .ok (.iload_n 1, 1) := by decide +kernel
theorem d_Mo_left_8 : decode (am_Mof y_Mo_left).1 8 = .ok (.invokestatic 105, 3) := by decide +kernel
theorem d_Mo_left_11 : decode (am_Mof y_Mo_left).1 11 = .ok (.ifCond .eq 27, 3) := by decide +kernel
theorem d_Mo_left_14 : decode (am_Mof y_Mo_left).1 14 = .ok (.iload_n 2, 1) := by decide +kernel
theorem d_Mo_left_15 : decode (am_Mof y_Mo_left).1 15 = .ok (.invokestatic 94, 3) := by decide +kernel
theorem d_Mo_left_18 : decode (am_Mof y_Mo_left).1 18 = .ok (.ifCond .eq 20, 3) := by decide +kernel
theorem d_Mo_left_21 : decode (am_Mof y_Mo_left).1 21 = .ok (.iload_n 3, 1) := by decide +kernel
theorem d_Mo_left_22 : decode (am_Mof y_Mo_left).1 22 = .ok (.invokestatic 102, 3) := by decide +kernel
theorem d_Mo_left_25 : decode (am_Mof y_Mo_left).1 25 = .ok (.ifCond .eq 13, 3) := by decide +kernel
theorem d_Mo_left_28 : decode (am_Mof y_Mo_left).1 28 = .ok (.aload_n 0, 1) := by decide +kernel
theorem d_Mo_left_29 : decode (am_Mof y_Mo_left).1 29 = .ok (.iload_n 1, 1) := by decide +kernel
theorem d_Mo_left_30 : decode (am_Mof y_Mo_left).1 30 = .ok (.iload_n 2, 1) := by decide +kernel
theorem d_Mo_left_31 : decode (am_Mof y_Mo_left).1 31 = .ok (.iload_n 3, 1) := by decide +kernel
theorem d_Mo_left_32 : decode (am_Mof y_Mo_left).1 32 = .ok (.invokevirtual 178, 3) := by decide +kernel
theorem d_Mo_left_35 : decode (am_Mof y_Mo_left).1 35 = .ok (.goto 6, 3) := by decide +kernel
theorem d_Mo_left_38 : decode (am_Mof y_Mo_left).1 38 = .ok (.ldc2_w 172, 3) := by decide +kernel
theorem d_Mo_left_41 : decode (am_Mof y_Mo_left).1 41 = .ok (.lreturn, 1) := by decide +kernel
theorem d_Mo_stock_0 : decode (am_Mof y_Mo_stock).1 0 = .ok (.aload_n 0, 1) := by decide +kernel
theorem d_Mo_stock_1 : decode (am_Mof y_Mo_stock).1 1 = .ok (.iload_n 2, 1) := by decide +kernel
theorem d_Mo_stock_2 : decode (am_Mof y_Mo_stock).1 2 = .ok (.iload_n 3, 1) := by decide +kernel
theorem d_Mo_stock_3 : decode (am_Mof y_Mo_stock).1 3 = .ok (.iload_n 1, 1) := by decide +kernel
theorem d_Mo_stock_4 : decode (am_Mof y_Mo_stock).1 4 = .ok (.invokevirtual 174, 3) := by decide +kernel
theorem d_Mo_stock_7 : decode (am_Mof y_Mo_stock).1 7 = .ok (.aload_n 0, 1) := by decide +kernel
theorem d_Mo_stock_8 : decode (am_Mof y_Mo_stock).1 8 = .ok (.getfield 154, 3) := by decide +kernel
theorem d_Mo_stock_11 : decode (am_Mof y_Mo_stock).1 11 = .ok (.aload_n 0, 1) := by decide +kernel
theorem d_Mo_stock_12 : decode (am_Mof y_Mo_stock).1 12 = .ok (.getfield 158, 3) := by decide +kernel
theorem d_Mo_stock_15 : decode (am_Mof y_Mo_stock).1 15 = .ok (.ldiv, 1) := by decide +kernel
theorem d_Mo_stock_16 : decode (am_Mof y_Mo_stock).1 16 = .ok (.aload_n 0, 1) := by decide +kernel
theorem d_Mo_stock_17 : decode (am_Mof y_Mo_stock).1 17 = .ok (.getfield 57, 3) := by decide +kernel
theorem d_Mo_stock_20 : decode (am_Mof y_Mo_stock).1 20 = .ok (.bipush 40, 2) := by decide +kernel
theorem d_Mo_stock_22 : decode (am_Mof y_Mo_stock).1 22 = .ok (.iload_n 1, 1) := by decide +kernel
theorem d_Mo_stock_23 : decode (am_Mof y_Mo_stock).1 23 = .ok (.imul, 1) := by decide +kernel
theorem d_Mo_stock_24 : decode (am_Mof y_Mo_stock).1 24 = .ok (.bipush 10, 2) := by decide +kernel
theorem d_Mo_stock_26 : decode (am_Mof y_Mo_stock).1 26 = .ok (.iload_n 2, 1) := by decide +kernel
theorem d_Mo_stock_27 : decode (am_Mof y_Mo_stock).1 27 = .ok (.imul, 1) := by decide +kernel
theorem d_Mo_stock_28 : decode (am_Mof y_Mo_stock).1 28 = .ok (.iadd, 1) := by decide +kernel
theorem d_Mo_stock_29 : decode (am_Mof y_Mo_stock).1 29 = .ok (.iload_n 3, 1) := by decide +kernel
theorem d_Mo_stock_30 : decode (am_Mof y_Mo_stock).1 30 = .ok (.iadd, 1) := by decide +kernel
theorem d_Mo_stock_31 : decode (am_Mof y_Mo_stock).1 31 = .ok (.laload, 1) := by decide +kernel
theorem d_Mo_stock_32 : decode (am_Mof y_Mo_stock).1 32 = .ok (.lsub, 1) := by decide +kernel
theorem d_Mo_stock_33 : decode (am_Mof y_Mo_stock).1 33 = .ok (.lreturn, 1) := by decide +kernel
theorem d_Mo_claim_0 : decode (am_Mof y_Mo_claim).1 0 = .ok (.aload_n 0, 1) := by decide +kernel
theorem d_Mo_claim_1 : decode (am_Mof y_Mo_claim).1 1 = .ok (.getfield 141, 3) := by decide +kernel
theorem d_Mo_claim_4 : decode (am_Mof y_Mo_claim).1 4 = .ok (.ifCond .eq 36, 3) := by decide +kernel
theorem d_Mo_claim_7 : decode (am_Mof y_Mo_claim).1 7 = .ok (.iload_n 1, 1) := by decide +kernel
theorem d_Mo_claim_8 : decode (am_Mof y_Mo_claim).1 8 = .ok (.invokestatic 105, 3) := by decide +kernel
theorem d_Mo_claim_11 : decode (am_Mof y_Mo_claim).1 11 = .ok (.ifCond .eq 29, 3) := by decide +kernel
theorem d_Mo_claim_14 : decode (am_Mof y_Mo_claim).1 14 = .ok (.iload_n 2, 1) := by decide +kernel
theorem d_Mo_claim_15 : decode (am_Mof y_Mo_claim).1 15 = .ok (.invokestatic 94, 3) := by decide +kernel
theorem d_Mo_claim_18 : decode (am_Mof y_Mo_claim).1 18 = .ok (.ifCond .eq 22, 3) := by decide +kernel
theorem d_Mo_claim_21 : decode (am_Mof y_Mo_claim).1 21 = .ok (.iload_n 3, 1) := by decide +kernel
theorem d_Mo_claim_22 : decode (am_Mof y_Mo_claim).1 22 = .ok (.invokestatic 102, 3) := by decide +kernel
theorem d_Mo_claim_25 : decode (am_Mof y_Mo_claim).1 25 = .ok (.ifCond .eq 15, 3) := by decide +kernel
theorem d_Mo_claim_28 : decode (am_Mof y_Mo_claim).1 28 = .ok (.lload 4, 2) := by decide +kernel
theorem d_Mo_claim_30 : decode (am_Mof y_Mo_claim).1 30 = .ok (.lconst 1, 1) := by decide +kernel
theorem d_Mo_claim_31 : decode (am_Mof y_Mo_claim).1 31 = .ok (.ldc2_w 182, 3) := by decide +kernel
theorem d_Mo_claim_34 : decode (am_Mof y_Mo_claim).1 34 = .ok (.invokestatic 82, 3) := by decide +kernel
theorem d_Mo_claim_37 : decode (am_Mof y_Mo_claim).1 37 = .ok (.ifCond .ne 7, 3) := by decide +kernel
theorem d_Mo_claim_40 : decode (am_Mof y_Mo_claim).1 40 = .ok (.ldc2_w 172, 3) := by decide +kernel
theorem d_Mo_claim_43 : decode (am_Mof y_Mo_claim).1 43 = .ok (.lreturn, 1) := by decide +kernel
theorem d_Mo_claim_44 : decode (am_Mof y_Mo_claim).1 44 = .ok (.lconst 0, 1) := by decide +kernel
theorem d_Mo_claim_45 : decode (am_Mof y_Mo_claim).1 45 = .ok (.lstore 6, 2) := by decide +kernel
theorem d_Mo_claim_47 : decode (am_Mof y_Mo_claim).1 47 = .ok (.iload_n 3, 1) := by decide +kernel
theorem d_Mo_claim_48 : decode (am_Mof y_Mo_claim).1 48 = .ok (.iconst 2, 1) := by decide +kernel
theorem d_Mo_claim_49 : decode (am_Mof y_Mo_claim).1 49 = .ok (.if_icmp .ge 7, 3) := by decide +kernel
theorem d_Mo_claim_52 : decode (am_Mof y_Mo_claim).1 52 = .ok (.iconst 0, 1) := by decide +kernel
theorem d_Mo_claim_53 : decode (am_Mof y_Mo_claim).1 53 = .ok (.goto 6, 3) := by decide +kernel
theorem d_Mo_claim_56 : decode (am_Mof y_Mo_claim).1 56 = .ok (.iload_n 3, 1) := by decide +kernel
theorem d_Mo_claim_57 : decode (am_Mof y_Mo_claim).1 57 = .ok (.iconst 2, 1) := by decide +kernel
theorem d_Mo_claim_58 : decode (am_Mof y_Mo_claim).1 58 = .ok (.isub, 1) := by decide +kernel
theorem d_Mo_claim_59 : decode (am_Mof y_Mo_claim).1 59 = .ok (.istore 8, 2) := by decide +kernel
theorem d_Mo_claim_61 : decode (am_Mof y_Mo_claim).1 61 = .ok (.iload 8, 2) := by decide +kernel
theorem d_Mo_claim_63 : decode (am_Mof y_Mo_claim).1 63 = .ok (.iload_n 3, 1) := by decide +kernel
theorem d_Mo_claim_64 : decode (am_Mof y_Mo_claim).1 64 = .ok (.if_icmp .gt 22, 3) := by decide +kernel
theorem d_Mo_claim_67 : decode (am_Mof y_Mo_claim).1 67 = .ok (.lload 6, 2) := by decide +kernel
theorem d_Mo_claim_69 : decode (am_Mof y_Mo_claim).1 69 = .ok (.aload_n 0, 1) := by decide +kernel
theorem d_Mo_claim_70 : decode (am_Mof y_Mo_claim).1 70 = .ok (.iload_n 1, 1) := by decide +kernel
theorem d_Mo_claim_71 : decode (am_Mof y_Mo_claim).1 71 = .ok (.iload_n 2, 1) := by decide +kernel
theorem d_Mo_claim_72 : decode (am_Mof y_Mo_claim).1 72 = .ok (.iload 8, 2) := by decide +kernel
theorem d_Mo_claim_74 : decode (am_Mof y_Mo_claim).1 74 = .ok (.invokevirtual 178, 3) := by decide +kernel
theorem d_Mo_claim_77 : decode (am_Mof y_Mo_claim).1 77 = .ok (.ladd, 1) := by decide +kernel
theorem d_Mo_claim_78 : decode (am_Mof y_Mo_claim).1 78 = .ok (.lstore 6, 2) := by decide +kernel
theorem d_Mo_claim_80 : decode (am_Mof y_Mo_claim).1 80 = .ok (.iinc 8 1, 3) := by decide +kernel
theorem d_Mo_claim_83 : decode (am_Mof y_Mo_claim).1 83 = .ok (.goto (-22), 3) := by decide +kernel
theorem d_Mo_claim_86 : decode (am_Mof y_Mo_claim).1 86 = .ok (.lload 6, 2) := by decide +kernel
theorem d_Mo_claim_88 : decode (am_Mof y_Mo_claim).1 88 = .ok (.lload 4, 2) := by decide +kernel
theorem d_Mo_claim_90 : decode (am_Mof y_Mo_claim).1 90 = .ok (.lcmp, 1) := by decide +kernel
theorem d_Mo_claim_91 : decode (am_Mof y_Mo_claim).1 91 = .ok (.ifCond .ge 7, 3) := by decide +kernel
theorem d_Mo_claim_94 : decode (am_Mof y_Mo_claim).1 94 = .ok (.ldc2_w 172, 3) := by decide +kernel
theorem d_Mo_claim_97 : decode (am_Mof y_Mo_claim).1 97 = .ok (.lreturn, 1) := by decide +kernel
theorem d_Mo_claim_98 : decode (am_Mof y_Mo_claim).1 98 = .ok (.lload 4, 2) := by decide +kernel
theorem d_Mo_claim_100 : decode (am_Mof y_Mo_claim).1 100 = .ok (.lstore 8, 2) := by decide +kernel
theorem d_Mo_claim_102 : decode (am_Mof y_Mo_claim).1 102 = .ok (.iload_n 3, 1) := by decide +kernel
theorem d_Mo_claim_103 : decode (am_Mof y_Mo_claim).1 103 = .ok (.iconst 2, 1) := by decide +kernel
theorem d_Mo_claim_104 : decode (am_Mof y_Mo_claim).1 104 = .ok (.if_icmp .ge 7, 3) := by decide +kernel
theorem d_Mo_claim_107 : decode (am_Mof y_Mo_claim).1 107 = .ok (.iconst 0, 1) := by decide +kernel
theorem d_Mo_claim_108 : decode (am_Mof y_Mo_claim).1 108 = .ok (.goto 6, 3) := by decide +kernel
theorem d_Mo_claim_111 : decode (am_Mof y_Mo_claim).1 111 = .ok (.iload_n 3, 1) := by decide +kernel
theorem d_Mo_claim_112 : decode (am_Mof y_Mo_claim).1 112 = .ok (.iconst 2, 1) := by decide +kernel
theorem d_Mo_claim_113 : decode (am_Mof y_Mo_claim).1 113 = .ok (.isub, 1) := by decide +kernel
theorem d_Mo_claim_114 : decode (am_Mof y_Mo_claim).1 114 = .ok (.istore 10, 2) := by decide +kernel
theorem d_Mo_claim_116 : decode (am_Mof y_Mo_claim).1 116 = .ok (.iload 10, 2) := by decide +kernel
theorem d_Mo_claim_118 : decode (am_Mof y_Mo_claim).1 118 = .ok (.iload_n 3, 1) := by decide +kernel
theorem d_Mo_claim_119 : decode (am_Mof y_Mo_claim).1 119 = .ok (.if_icmp .gt 65, 3) := by decide +kernel
theorem d_Mo_claim_122 : decode (am_Mof y_Mo_claim).1 122 = .ok (.aload_n 0, 1) := by decide +kernel
theorem d_Mo_claim_123 : decode (am_Mof y_Mo_claim).1 123 = .ok (.iload_n 1, 1) := by decide +kernel
theorem d_Mo_claim_124 : decode (am_Mof y_Mo_claim).1 124 = .ok (.iload_n 2, 1) := by decide +kernel
theorem d_Mo_claim_125 : decode (am_Mof y_Mo_claim).1 125 = .ok (.iload 10, 2) := by decide +kernel
theorem d_Mo_claim_127 : decode (am_Mof y_Mo_claim).1 127 = .ok (.invokevirtual 178, 3) := by decide +kernel
theorem d_Mo_claim_130 : decode (am_Mof y_Mo_claim).1 130 = .ok (.lstore 11, 2) := by decide +kernel
theorem d_Mo_claim_132 : decode (am_Mof y_Mo_claim).1 132 = .ok (.lload 11, 2) := by decide +kernel
theorem d_Mo_claim_134 : decode (am_Mof y_Mo_claim).1 134 = .ok (.lload 8, 2) := by decide +kernel
theorem d_Mo_claim_136 : decode (am_Mof y_Mo_claim).1 136 = .ok (.lcmp, 1) := by decide +kernel
theorem d_Mo_claim_137 : decode (am_Mof y_Mo_claim).1 137 = .ok (.ifCond .ge 8, 3) := by decide +kernel
theorem d_Mo_claim_140 : decode (am_Mof y_Mo_claim).1 140 = .ok (.lload 11, 2) := by decide +kernel
theorem d_Mo_claim_142 : decode (am_Mof y_Mo_claim).1 142 = .ok (.goto 5, 3) := by decide +kernel
theorem d_Mo_claim_145 : decode (am_Mof y_Mo_claim).1 145 = .ok (.lload 8, 2) := by decide +kernel
theorem d_Mo_claim_147 : decode (am_Mof y_Mo_claim).1 147 = .ok (.lstore 13, 2) := by decide +kernel
theorem d_Mo_claim_149 : decode (am_Mof y_Mo_claim).1 149 = .ok (.aload_n 0, 1) := by decide +kernel
theorem d_Mo_claim_150 : decode (am_Mof y_Mo_claim).1 150 = .ok (.getfield 57, 3) := by decide +kernel
theorem d_Mo_claim_153 : decode (am_Mof y_Mo_claim).1 153 = .ok (.bipush 40, 2) := by decide +kernel
theorem d_Mo_claim_155 : decode (am_Mof y_Mo_claim).1 155 = .ok (.iload_n 1, 1) := by decide +kernel
theorem d_Mo_claim_156 : decode (am_Mof y_Mo_claim).1 156 = .ok (.imul, 1) := by decide +kernel
theorem d_Mo_claim_157 : decode (am_Mof y_Mo_claim).1 157 = .ok (.bipush 10, 2) := by decide +kernel
theorem d_Mo_claim_159 : decode (am_Mof y_Mo_claim).1 159 = .ok (.iload_n 2, 1) := by decide +kernel
theorem d_Mo_claim_160 : decode (am_Mof y_Mo_claim).1 160 = .ok (.imul, 1) := by decide +kernel
theorem d_Mo_claim_161 : decode (am_Mof y_Mo_claim).1 161 = .ok (.iadd, 1) := by decide +kernel
theorem d_Mo_claim_162 : decode (am_Mof y_Mo_claim).1 162 = .ok (.iload 10, 2) := by decide +kernel
theorem d_Mo_claim_164 : decode (am_Mof y_Mo_claim).1 164 = .ok (.iadd, 1) := by decide +kernel
theorem d_Mo_claim_165 : decode (am_Mof y_Mo_claim).1 165 = .ok (.dup2, 1) := by decide +kernel
theorem d_Mo_claim_166 : decode (am_Mof y_Mo_claim).1 166 = .ok (.laload, 1) := by decide +kernel
theorem d_Mo_claim_167 : decode (am_Mof y_Mo_claim).1 167 = .ok (.lload 13, 2) := by decide +kernel
theorem d_Mo_claim_169 : decode (am_Mof y_Mo_claim).1 169 = .ok (.ladd, 1) := by decide +kernel
theorem d_Mo_claim_170 : decode (am_Mof y_Mo_claim).1 170 = .ok (.lastore, 1) := by decide +kernel
theorem d_Mo_claim_171 : decode (am_Mof y_Mo_claim).1 171 = .ok (.lload 8, 2) := by decide +kernel
theorem d_Mo_claim_173 : decode (am_Mof y_Mo_claim).1 173 = .ok (.lload 13, 2) := by decide +kernel
theorem d_Mo_claim_175 : decode (am_Mof y_Mo_claim).1 175 = .ok (.lsub, 1) := by decide +kernel
theorem d_Mo_claim_176 : decode (am_Mof y_Mo_claim).1 176 = .ok (.lstore 8, 2) := by decide +kernel
theorem d_Mo_claim_178 : decode (am_Mof y_Mo_claim).1 178 = .ok (.iinc 10 1, 3) := by decide +kernel
theorem d_Mo_claim_181 : decode (am_Mof y_Mo_claim).1 181 = .ok (.goto (-65), 3) := by decide +kernel
theorem d_Mo_claim_184 : decode (am_Mof y_Mo_claim).1 184 = .ok (.lload 6, 2) := by decide +kernel
theorem d_Mo_claim_186 : decode (am_Mof y_Mo_claim).1 186 = .ok (.lload 4, 2) := by decide +kernel
theorem d_Mo_claim_188 : decode (am_Mof y_Mo_claim).1 188 = .ok (.lsub, 1) := by decide +kernel
theorem d_Mo_claim_189 : decode (am_Mof y_Mo_claim).1 189 = .ok (.lreturn, 1) := by decide +kernel
theorem d_Mo_open_0 : decode (am_Mof y_Mo_open).1 0 = .ok (.aload_n 0, 1) := by decide +kernel
theorem d_Mo_open_1 : decode (am_Mof y_Mo_open).1 1 = .ok (.getfield 141, 3) := by decide +kernel
theorem d_Mo_open_4 : decode (am_Mof y_Mo_open).1 4 = .ok (.ifCond .eq 42, 3) := by decide +kernel
theorem d_Mo_open_7 : decode (am_Mof y_Mo_open).1 7 = .ok (.iload_n 1, 1) := by decide +kernel
theorem d_Mo_open_8 : decode (am_Mof y_Mo_open).1 8 = .ok (.invokestatic 102, 3) := by decide +kernel
theorem d_Mo_open_11 : decode (am_Mof y_Mo_open).1 11 = .ok (.ifCond .eq 35, 3) := by decide +kernel
theorem d_Mo_open_14 : decode (am_Mof y_Mo_open).1 14 = .ok (.iload_n 2, 1) := by decide +kernel
theorem d_Mo_open_15 : decode (am_Mof y_Mo_open).1 15 = .ok (.invokestatic 102, 3) := by decide +kernel
theorem d_Mo_open_18 : decode (am_Mof y_Mo_open).1 18 = .ok (.ifCond .eq 28, 3) := by decide +kernel
theorem d_Mo_open_21 : decode (am_Mof y_Mo_open).1 21 = .ok (.iload_n 3, 1) := by decide +kernel
theorem d_Mo_open_22 : decode (am_Mof y_Mo_open).1 22 = .ok (.ifCond .lt 24, 3) := by decide +kernel
theorem d_Mo_open_25 : decode (am_Mof y_Mo_open).1 25 = .ok (.iload_n 3, 1) := by decide +kernel
theorem d_Mo_open_26 : decode (am_Mof y_Mo_open).1 26 = .ok (.iconst 4, 1) := by decide +kernel
theorem d_Mo_open_27 : decode (am_Mof y_Mo_open).1 27 = .ok (.aload_n 0, 1) := by decide +kernel
theorem d_Mo_open_28 : decode (am_Mof y_Mo_open).1 28 = .ok (.getfield 72, 3) := by decide +kernel
theorem d_Mo_open_31 : decode (am_Mof y_Mo_open).1 31 = .ok (.imul, 1) := by decide +kernel
theorem d_Mo_open_32 : decode (am_Mof y_Mo_open).1 32 = .ok (.if_icmp .ge 14, 3) := by decide +kernel
theorem d_Mo_open_35 : decode (am_Mof y_Mo_open).1 35 = .ok (.iload 4, 2) := by decide +kernel
theorem d_Mo_open_37 : decode (am_Mof y_Mo_open).1 37 = .ok (.i2l, 1) := by decide +kernel
theorem d_Mo_open_38 : decode (am_Mof y_Mo_open).1 38 = .ok (.lconst 0, 1) := by decide +kernel
theorem d_Mo_open_39 : decode (am_Mof y_Mo_open).1 39 = .ok (.lconst 1, 1) := by decide +kernel
theorem d_Mo_open_40 : decode (am_Mof y_Mo_open).1 40 = .ok (.invokestatic 82, 3) := by decide +kernel
theorem d_Mo_open_43 : decode (am_Mof y_Mo_open).1 43 = .ok (.ifCond .ne 5, 3) := by decide +kernel
theorem d_Mo_open_46 : decode (am_Mof y_Mo_open).1 46 = .ok (.lconst 0, 1) := by decide +kernel
theorem d_Mo_open_47 : decode (am_Mof y_Mo_open).1 47 = .ok (.lreturn, 1) := by decide +kernel
theorem d_Mo_open_48 : decode (am_Mof y_Mo_open).1 48 = .ok (.aload_n 0, 1) := by decide +kernel
theorem d_Mo_open_49 : decode (am_Mof y_Mo_open).1 49 = .ok (.invokevirtual 165, 3) := by decide +kernel
theorem d_Mo_open_52 : decode (am_Mof y_Mo_open).1 52 = .ok (.aload_n 0, 1) := by decide +kernel
theorem d_Mo_open_53 : decode (am_Mof y_Mo_open).1 53 = .ok (.iload_n 3, 1) := by decide +kernel
theorem d_Mo_open_54 : decode (am_Mof y_Mo_open).1 54 = .ok (.iconst 4, 1) := by decide +kernel
theorem d_Mo_open_55 : decode (am_Mof y_Mo_open).1 55 = .ok (.irem, 1) := by decide +kernel
theorem d_Mo_open_56 : decode (am_Mof y_Mo_open).1 56 = .ok (.iload_n 1, 1) := by decide +kernel
theorem d_Mo_open_57 : decode (am_Mof y_Mo_open).1 57 = .ok (.iconst (-1), 1) := by decide +kernel
theorem d_Mo_open_58 : decode (am_Mof y_Mo_open).1 58 = .ok (.iload_n 3, 1) := by decide +kernel
theorem d_Mo_open_59 : decode (am_Mof y_Mo_open).1 59 = .ok (.iconst 4, 1) := by decide +kernel
theorem d_Mo_open_60 : decode (am_Mof y_Mo_open).1 60 = .ok (.idiv, 1) := by decide +kernel
theorem d_Mo_open_61 : decode (am_Mof y_Mo_open).1 61 = .ok (.invokevirtual 168, 3) := by decide +kernel
theorem d_Mo_open_64 : decode (am_Mof y_Mo_open).1 64 = .ok (.aload_n 0, 1) := by decide +kernel
theorem d_Mo_open_65 : decode (am_Mof y_Mo_open).1 65 = .ok (.aload_n 0, 1) := by decide +kernel
theorem d_Mo_open_66 : decode (am_Mof y_Mo_open).1 66 = .ok (.getfield 154, 3) := by decide +kernel
theorem d_Mo_open_69 : decode (am_Mof y_Mo_open).1 69 = .ok (.lneg, 1) := by decide +kernel
theorem d_Mo_open_70 : decode (am_Mof y_Mo_open).1 70 = .ok (.putfield 154, 3) := by decide +kernel
theorem d_Mo_open_73 : decode (am_Mof y_Mo_open).1 73 = .ok (.aload_n 0, 1) := by decide +kernel
theorem d_Mo_open_74 : decode (am_Mof y_Mo_open).1 74 = .ok (.iload_n 3, 1) := by decide +kernel
theorem d_Mo_open_75 : decode (am_Mof y_Mo_open).1 75 = .ok (.iconst 4, 1) := by decide +kernel
theorem d_Mo_open_76 : decode (am_Mof y_Mo_open).1 76 = .ok (.irem, 1) := by decide +kernel
theorem d_Mo_open_77 : decode (am_Mof y_Mo_open).1 77 = .ok (.iload_n 2, 1) := by decide +kernel
theorem d_Mo_open_78 : decode (am_Mof y_Mo_open).1 78 = .ok (.iconst (-1), 1) := by decide +kernel
theorem d_Mo_open_79 : decode (am_Mof y_Mo_open).1 79 = .ok (.iload_n 3, 1) := by decide +kernel
theorem d_Mo_open_80 : decode (am_Mof y_Mo_open).1 80 = .ok (.iconst 4, 1) := by decide +kernel
theorem d_Mo_open_81 : decode (am_Mof y_Mo_open).1 81 = .ok (.idiv, 1) := by decide +kernel
theorem d_Mo_open_82 : decode (am_Mof y_Mo_open).1 82 = .ok (.invokevirtual 168, 3) := by decide +kernel
theorem d_Mo_open_85 : decode (am_Mof y_Mo_open).1 85 = .ok (.iload 4, 2) := by decide +kernel
theorem d_Mo_open_87 : decode (am_Mof y_Mo_open).1 87 = .ok (.ifCond .ne 10, 3) := by decide +kernel
theorem d_Mo_open_90 : decode (am_Mof y_Mo_open).1 90 = .ok (.aload_n 0, 1) := by decide +kernel
theorem d_Mo_open_91 : decode (am_Mof y_Mo_open).1 91 = .ok (.getfield 154, 3) := by decide +kernel
theorem d_Mo_open_94 : decode (am_Mof y_Mo_open).1 94 = .ok (.goto 7, 3) := by decide +kernel
theorem d_Mo_open_97 : decode (am_Mof y_Mo_open).1 97 = .ok (.aload_n 0, 1) := by decide +kernel
theorem d_Mo_open_98 : decode (am_Mof y_Mo_open).1 98 = .ok (.getfield 158, 3) := by decide +kernel
theorem d_Mo_open_101 : decode (am_Mof y_Mo_open).1 101 = .ok (.lreturn, 1) := by decide +kernel
theorem d_Mo_audit_0 : decode (am_Mof y_Mo_audit).1 0 = .ok (.iload_n 3, 1) := by decide +kernel
theorem d_Mo_audit_1 : decode (am_Mof y_Mo_audit).1 1 = .ok (.iconst 1, 1) := by decide +kernel
theorem d_Mo_audit_2 : decode (am_Mof y_Mo_audit).1 2 = .ok (.if_icmp .lt 11, 3) := by decide +kernel
theorem d_Mo_audit_5 : decode (am_Mof y_Mo_audit).1 5 = .ok (.iload_n 3, 1) := by decide +kernel
theorem d_Mo_audit_6 : decode (am_Mof y_Mo_audit).1 6 = .ok (.aload_n 0, 1) := by decide +kernel
theorem d_Mo_audit_7 : decode (am_Mof y_Mo_audit).1 7 = .ok (.getfield 97, 3) := by decide +kernel
theorem d_Mo_audit_10 : decode (am_Mof y_Mo_audit).1 10 = .ok (.if_icmp .le 5, 3) := by decide +kernel
theorem d_Mo_audit_13 : decode (am_Mof y_Mo_audit).1 13 = .ok (.iconst (-1), 1) := by decide +kernel
theorem d_Mo_audit_14 : decode (am_Mof y_Mo_audit).1 14 = .ok (.ireturn, 1) := by decide +kernel
theorem d_Mo_audit_15 : decode (am_Mof y_Mo_audit).1 15 = .ok (.iconst 0, 1) := by decide +kernel
theorem d_Mo_audit_16 : decode (am_Mof y_Mo_audit).1 16 = .ok (.istore 4, 2) := by decide +kernel
theorem d_Mo_audit_18 : decode (am_Mof y_Mo_audit).1 18 = .ok (.iload 4, 2) := by decide +kernel
theorem d_Mo_audit_20 : decode (am_Mof y_Mo_audit).1 20 = .ok (.aload_n 0, 1) := by decide +kernel
theorem d_Mo_audit_21 : decode (am_Mof y_Mo_audit).1 21 = .ok (.getfield 97, 3) := by decide +kernel
theorem d_Mo_audit_24 : decode (am_Mof y_Mo_audit).1 24 = .ok (.if_icmp .ge 18, 3) := by decide +kernel
theorem d_Mo_audit_27 : decode (am_Mof y_Mo_audit).1 27 = .ok (.aload_n 0, 1) := by decide +kernel
theorem d_Mo_audit_28 : decode (am_Mof y_Mo_audit).1 28 = .ok (.getfield 60, 3) := by decide +kernel
theorem d_Mo_audit_31 : decode (am_Mof y_Mo_audit).1 31 = .ok (.iload 4, 2) := by decide +kernel
theorem d_Mo_audit_33 : decode (am_Mof y_Mo_audit).1 33 = .ok (.iload 4, 2) := by decide +kernel
theorem d_Mo_audit_35 : decode (am_Mof y_Mo_audit).1 35 = .ok (.iastore, 1) := by decide +kernel
theorem d_Mo_audit_36 : decode (am_Mof y_Mo_audit).1 36 = .ok (.iinc 4 1, 3) := by decide +kernel
theorem d_Mo_audit_39 : decode (am_Mof y_Mo_audit).1 39 = .ok (.goto (-21), 3) := by decide +kernel
theorem d_Mo_audit_42 : decode (am_Mof y_Mo_audit).1 42 = .ok (.lload_n 1, 1) := by decide +kernel
theorem d_Mo_audit_43 : decode (am_Mof y_Mo_audit).1 43 = .ok (.lstore 4, 2) := by decide +kernel
theorem d_Mo_audit_45 : decode (am_Mof y_Mo_audit).1 45 = .ok (.iconst 0, 1) := by decide +kernel
theorem d_Mo_audit_46 : decode (am_Mof y_Mo_audit).1 46 = .ok (.istore 6, 2) := by decide +kernel
theorem d_Mo_audit_48 : decode (am_Mof y_Mo_audit).1 48 = .ok (.iload 6, 2) := by decide +kernel
theorem d_Mo_audit_50 : decode (am_Mof y_Mo_audit).1 50 = .ok (.iload_n 3, 1) := by decide +kernel
theorem d_Mo_audit_51 : decode (am_Mof y_Mo_audit).1 51 = .ok (.if_icmp .ge 73, 3) := by decide +kernel
theorem d_Mo_audit_54 : decode (am_Mof y_Mo_audit).1 54 = .ok (.lload 4, 2) := by decide +kernel
theorem d_Mo_audit_56 : decode (am_Mof y_Mo_audit).1 56 = .ok (.ldc2_w 184, 3) := by decide +kernel
theorem d_Mo_audit_59 : decode (am_Mof y_Mo_audit).1 59 = .ok (.lmul, 1) := by decide +kernel
theorem d_Mo_audit_60 : decode (am_Mof y_Mo_audit).1 60 = .ok (.ldc2_w 186, 3) := by decide +kernel
theorem d_Mo_audit_63 : decode (am_Mof y_Mo_audit).1 63 = .ok (.ladd, 1) := by decide +kernel
theorem d_Mo_audit_64 : decode (am_Mof y_Mo_audit).1 64 = .ok (.lstore 4, 2) := by decide +kernel
theorem d_Mo_audit_66 : decode (am_Mof y_Mo_audit).1 66 = .ok (.iload 6, 2) := by decide +kernel
theorem d_Mo_audit_68 : decode (am_Mof y_Mo_audit).1 68 = .ok (.lload 4, 2) := by decide +kernel
theorem d_Mo_audit_70 : decode (am_Mof y_Mo_audit).1 70 = .ok (.bipush 33, 2) := by decide +kernel
theorem d_Mo_audit_72 : decode (am_Mof y_Mo_audit).1 72 = .ok (.lushr, 1) := by decide +kernel
theorem d_Mo_audit_73 : decode (am_Mof y_Mo_audit).1 73 = .ok (.aload_n 0, 1) := by decide +kernel
theorem d_Mo_audit_74 : decode (am_Mof y_Mo_audit).1 74 = .ok (.getfield 97, 3) := by decide +kernel
theorem d_Mo_audit_77 : decode (am_Mof y_Mo_audit).1 77 = .ok (.iload 6, 2) := by decide +kernel
theorem d_Mo_audit_79 : decode (am_Mof y_Mo_audit).1 79 = .ok (.isub, 1) := by decide +kernel
theorem d_Mo_audit_80 : decode (am_Mof y_Mo_audit).1 80 = .ok (.i2l, 1) := by decide +kernel
theorem d_Mo_audit_81 : decode (am_Mof y_Mo_audit).1 81 = .ok (.lrem, 1) := by decide +kernel
theorem d_Mo_audit_82 : decode (am_Mof y_Mo_audit).1 82 = .ok (.l2i, 1) := by decide +kernel
theorem d_Mo_audit_83 : decode (am_Mof y_Mo_audit).1 83 = .ok (.iadd, 1) := by decide +kernel
theorem d_Mo_audit_84 : decode (am_Mof y_Mo_audit).1 84 = .ok (.istore 7, 2) := by decide +kernel
theorem d_Mo_audit_86 : decode (am_Mof y_Mo_audit).1 86 = .ok (.aload_n 0, 1) := by decide +kernel
theorem d_Mo_audit_87 : decode (am_Mof y_Mo_audit).1 87 = .ok (.getfield 60, 3) := by decide +kernel
theorem d_Mo_audit_90 : decode (am_Mof y_Mo_audit).1 90 = .ok (.iload 6, 2) := by decide +kernel
theorem d_Mo_audit_92 : decode (am_Mof y_Mo_audit).1 92 = .ok (.iaload, 1) := by decide +kernel
theorem d_Mo_audit_93 : decode (am_Mof y_Mo_audit).1 93 = .ok (.istore 8, 2) := by decide +kernel
theorem d_Mo_audit_95 : decode (am_Mof y_Mo_audit).1 95 = .ok (.aload_n 0, 1) := by decide +kernel
theorem d_Mo_audit_96 : decode (am_Mof y_Mo_audit).1 96 = .ok (.getfield 60, 3) := by decide +kernel
theorem d_Mo_audit_99 : decode (am_Mof y_Mo_audit).1 99 = .ok (.iload 6, 2) := by decide +kernel
theorem d_Mo_audit_101 : decode (am_Mof y_Mo_audit).1 101 = .ok (.aload_n 0, 1) := by decide +kernel
theorem d_Mo_audit_102 : decode (am_Mof y_Mo_audit).1 102 = .ok (.getfield 60, 3) := by decide +kernel
theorem d_Mo_audit_105 : decode (am_Mof y_Mo_audit).1 105 = .ok (.iload 7, 2) := by decide +kernel
theorem d_Mo_audit_107 : decode (am_Mof y_Mo_audit).1 107 = .ok (.iaload, 1) := by decide +kernel
theorem d_Mo_audit_108 : decode (am_Mof y_Mo_audit).1 108 = .ok (.iastore, 1) := by decide +kernel
theorem d_Mo_audit_109 : decode (am_Mof y_Mo_audit).1 109 = .ok (.aload_n 0, 1) := by decide +kernel
theorem d_Mo_audit_110 : decode (am_Mof y_Mo_audit).1 110 = .ok (.getfield 60, 3) := by decide +kernel
theorem d_Mo_audit_113 : decode (am_Mof y_Mo_audit).1 113 = .ok (.iload 7, 2) := by decide +kernel
theorem d_Mo_audit_115 : decode (am_Mof y_Mo_audit).1 115 = .ok (.iload 8, 2) := by decide +kernel
theorem d_Mo_audit_117 : decode (am_Mof y_Mo_audit).1 117 = .ok (.iastore, 1) := by decide +kernel
theorem d_Mo_audit_118 : decode (am_Mof y_Mo_audit).1 118 = .ok (.iinc 6 1, 3) := by decide +kernel
theorem d_Mo_audit_121 : decode (am_Mof y_Mo_audit).1 121 = .ok (.goto (-73), 3) := by decide +kernel
theorem d_Mo_audit_124 : decode (am_Mof y_Mo_audit).1 124 = .ok (.aload_n 0, 1) := by decide +kernel
theorem d_Mo_audit_125 : decode (am_Mof y_Mo_audit).1 125 = .ok (.iload_n 3, 1) := by decide +kernel
theorem d_Mo_audit_126 : decode (am_Mof y_Mo_audit).1 126 = .ok (.putfield 188, 3) := by decide +kernel
theorem d_Mo_audit_129 : decode (am_Mof y_Mo_audit).1 129 = .ok (.iload_n 3, 1) := by decide +kernel
theorem d_Mo_audit_130 : decode (am_Mof y_Mo_audit).1 130 = .ok (.ireturn, 1) := by decide +kernel
theorem d_Mo_drawn_0 : decode (am_Mof y_Mo_drawn).1 0 = .ok (.iload_n 1, 1) := by decide +kernel
theorem d_Mo_drawn_1 : decode (am_Mof y_Mo_drawn).1 1 = .ok (.ifCond .lt 20, 3) := by decide +kernel
theorem d_Mo_drawn_4 : decode (am_Mof y_Mo_drawn).1 4 = .ok (.iload_n 1, 1) := by decide +kernel
theorem d_Mo_drawn_5 : decode (am_Mof y_Mo_drawn).1 5 = .ok (.aload_n 0, 1) := by decide +kernel
theorem d_Mo_drawn_6 : decode (am_Mof y_Mo_drawn).1 6 = .ok (.getfield 188, 3) := by decide +kernel
theorem d_Mo_drawn_9 : decode (am_Mof y_Mo_drawn).1 9 = .ok (.if_icmp .ge 12, 3) := by decide +kernel
theorem d_Mo_drawn_12 : decode (am_Mof y_Mo_drawn).1 12 = .ok (.aload_n 0, 1) := by decide +kernel
theorem d_Mo_drawn_13 : decode (am_Mof y_Mo_drawn).1 13 = .ok (.getfield 60, 3) := by decide +kernel
theorem d_Mo_drawn_16 : decode (am_Mof y_Mo_drawn).1 16 = .ok (.iload_n 1, 1) := by decide +kernel
theorem d_Mo_drawn_17 : decode (am_Mof y_Mo_drawn).1 17 = .ok (.iaload, 1) := by decide +kernel
theorem d_Mo_drawn_18 : decode (am_Mof y_Mo_drawn).1 18 = .ok (.goto 4, 3) := by decide +kernel
theorem d_Mo_drawn_21 : decode (am_Mof y_Mo_drawn).1 21 = .ok (.iconst (-1), 1) := by decide +kernel
theorem d_Mo_drawn_22 : decode (am_Mof y_Mo_drawn).1 22 = .ok (.ireturn, 1) := by decide +kernel
theorem d_Mo_unit_0 : decode (am_Mof y_Mo_unit).1 0 = .ok (.iload_n 1, 1) := by decide +kernel
theorem d_Mo_unit_1 : decode (am_Mof y_Mo_unit).1 1 = .ok (.ifCond .lt 20, 3) := by decide +kernel
theorem d_Mo_unit_4 : decode (am_Mof y_Mo_unit).1 4 = .ok (.iload_n 1, 1) := by decide +kernel
theorem d_Mo_unit_5 : decode (am_Mof y_Mo_unit).1 5 = .ok (.sipush 255, 3) := by decide +kernel
theorem d_Mo_unit_8 : decode (am_Mof y_Mo_unit).1 8 = .ok (.if_icmp .gt 13, 3) := by decide +kernel
theorem d_Mo_unit_11 : decode (am_Mof y_Mo_unit).1 11 = .ok (.aload_n 0, 1) := by decide +kernel
theorem d_Mo_unit_12 : decode (am_Mof y_Mo_unit).1 12 = .ok (.getfield 191, 3) := by decide +kernel
theorem d_Mo_unit_15 : decode (am_Mof y_Mo_unit).1 15 = .ok (.sipush 200, 3) := by decide +kernel
theorem d_Mo_unit_18 : decode (am_Mof y_Mo_unit).1 18 = .ok (.if_icmp .ne 5, 3) := by decide +kernel
theorem d_Mo_unit_21 : decode (am_Mof y_Mo_unit).1 21 = .ok (.iconst 0, 1) := by decide +kernel
theorem d_Mo_unit_22 : decode (am_Mof y_Mo_unit).1 22 = .ok (.ireturn, 1) := by decide +kernel
theorem d_Mo_unit_23 : decode (am_Mof y_Mo_unit).1 23 = .ok (.aload_n 0, 1) := by decide +kernel
theorem d_Mo_unit_24 : decode (am_Mof y_Mo_unit).1 24 = .ok (.getfield 63, 3) := by decide +kernel
theorem d_Mo_unit_27 : decode (am_Mof y_Mo_unit).1 27 = .ok (.aload_n 0, 1) := by decide +kernel
theorem d_Mo_unit_28 : decode (am_Mof y_Mo_unit).1 28 = .ok (.getfield 191, 3) := by decide +kernel
theorem d_Mo_unit_31 : decode (am_Mof y_Mo_unit).1 31 = .ok (.iload_n 1, 1) := by decide +kernel
theorem d_Mo_unit_32 : decode (am_Mof y_Mo_unit).1 32 = .ok (.iastore, 1) := by decide +kernel
theorem d_Mo_unit_33 : decode (am_Mof y_Mo_unit).1 33 = .ok (.aload_n 0, 1) := by decide +kernel
theorem d_Mo_unit_34 : decode (am_Mof y_Mo_unit).1 34 = .ok (.dup, 1) := by decide +kernel
theorem d_Mo_unit_35 : decode (am_Mof y_Mo_unit).1 35 = .ok (.getfield 191, 3) := by decide +kernel
theorem d_Mo_unit_38 : decode (am_Mof y_Mo_unit).1 38 = .ok (.iconst 1, 1) := by decide +kernel
theorem d_Mo_unit_39 : decode (am_Mof y_Mo_unit).1 39 = .ok (.iadd, 1) := by decide +kernel
theorem d_Mo_unit_40 : decode (am_Mof y_Mo_unit).1 40 = .ok (.putfield 191, 3) := by decide +kernel
theorem d_Mo_unit_43 : decode (am_Mof y_Mo_unit).1 43 = .ok (.iconst 1, 1) := by decide +kernel
theorem d_Mo_unit_44 : decode (am_Mof y_Mo_unit).1 44 = .ok (.ireturn, 1) := by decide +kernel
theorem d_Mo_form_0 : decode (am_Mof y_Mo_form).1 0 = .ok (.iload_n 1, 1) := by decide +kernel
theorem d_Mo_form_1 : decode (am_Mof y_Mo_form).1 1 = .ok (.ifCond .ge 5, 3) := by decide +kernel
theorem d_Mo_form_4 : decode (am_Mof y_Mo_form).1 4 = .ok (.iconst (-1), 1) := by decide +kernel
theorem d_Mo_form_5 : decode (am_Mof y_Mo_form).1 5 = .ok (.ireturn, 1) := by decide +kernel
theorem d_Mo_form_6 : decode (am_Mof y_Mo_form).1 6 = .ok (.iconst 0, 1) := by decide +kernel
theorem d_Mo_form_7 : decode (am_Mof y_Mo_form).1 7 = .ok (.istore_n 2, 1) := by decide +kernel
theorem d_Mo_form_8 : decode (am_Mof y_Mo_form).1 8 = .ok (.iload_n 1, 1) := by decide +kernel
theorem d_Mo_form_9 : decode (am_Mof y_Mo_form).1 9 = .ok (.istore_n 3, 1) := by decide +kernel
theorem d_Mo_form_10 : decode (am_Mof y_Mo_form).1 10 = .ok (.iload_n 2, 1) := by decide +kernel
theorem d_Mo_form_11 : decode (am_Mof y_Mo_form).1 11 = .ok (.aload_n 0, 1) := by decide +kernel
theorem d_Mo_form_12 : decode (am_Mof y_Mo_form).1 12 = .ok (.getfield 191, 3) := by decide +kernel
theorem d_Mo_form_15 : decode (am_Mof y_Mo_form).1 15 = .ok (.if_icmp .ge 138, 3) := by decide +kernel
theorem d_Mo_form_18 : decode (am_Mof y_Mo_form).1 18 = .ok (.iconst 1, 1) := by decide +kernel
theorem d_Mo_form_19 : decode (am_Mof y_Mo_form).1 19 = .ok (.istore 4, 2) := by decide +kernel
theorem d_Mo_form_21 : decode (am_Mof y_Mo_form).1 21 = .ok (.ldc2_w 172, 3) := by decide +kernel
theorem d_Mo_form_24 : decode (am_Mof y_Mo_form).1 24 = .ok (.lstore 5, 2) := by decide +kernel
theorem d_Mo_form_26 : decode (am_Mof y_Mo_form).1 26 = .ok (.aload_n 0, 1) := by decide +kernel
theorem d_Mo_form_27 : decode (am_Mof y_Mo_form).1 27 = .ok (.iload_n 2, 1) := by decide +kernel
theorem d_Mo_form_28 : decode (am_Mof y_Mo_form).1 28 = .ok (.invokevirtual 198, 3) := by decide +kernel
theorem d_Mo_form_31 : decode (am_Mof y_Mo_form).1 31 = .ok (.istore 7, 2) := by decide +kernel
theorem d_Mo_form_33 : decode (am_Mof y_Mo_form).1 33 = .ok (.iload 7, 2) := by decide +kernel
theorem d_Mo_form_35 : decode (am_Mof y_Mo_form).1 35 = .ok (.ifCond .eq 55, 3) := by decide +kernel
theorem d_Mo_form_38 : decode (am_Mof y_Mo_form).1 38 = .ok (.aload_n 0, 1) := by decide +kernel
theorem d_Mo_form_39 : decode (am_Mof y_Mo_form).1 39 = .ok (.getfield 141, 3) := by decide +kernel
theorem d_Mo_form_42 : decode (am_Mof y_Mo_form).1 42 = .ok (.ifCond .eq 48, 3) := by decide +kernel
theorem d_Mo_form_45 : decode (am_Mof y_Mo_form).1 45 = .ok (.aload_n 0, 1) := by decide +kernel
theorem d_Mo_form_46 : decode (am_Mof y_Mo_form).1 46 = .ok (.aload_n 0, 1) := by decide +kernel
theorem d_Mo_form_47 : decode (am_Mof y_Mo_form).1 47 = .ok (.getfield 63, 3) := by decide +kernel
theorem d_Mo_form_50 : decode (am_Mof y_Mo_form).1 50 = .ok (.iload_n 2, 1) := by decide +kernel
theorem d_Mo_form_51 : decode (am_Mof y_Mo_form).1 51 = .ok (.iconst 1, 1) := by decide +kernel
theorem d_Mo_form_52 : decode (am_Mof y_Mo_form).1 52 = .ok (.iadd, 1) := by decide +kernel
theorem d_Mo_form_53 : decode (am_Mof y_Mo_form).1 53 = .ok (.iaload, 1) := by decide +kernel
theorem d_Mo_form_54 : decode (am_Mof y_Mo_form).1 54 = .ok (.bipush 48, 2) := by decide +kernel
theorem d_Mo_form_56 : decode (am_Mof y_Mo_form).1 56 = .ok (.isub, 1) := by decide +kernel
theorem d_Mo_form_57 : decode (am_Mof y_Mo_form).1 57 = .ok (.aload_n 0, 1) := by decide +kernel
theorem d_Mo_form_58 : decode (am_Mof y_Mo_form).1 58 = .ok (.getfield 63, 3) := by decide +kernel
theorem d_Mo_form_61 : decode (am_Mof y_Mo_form).1 61 = .ok (.iload_n 2, 1) := by decide +kernel
theorem d_Mo_form_62 : decode (am_Mof y_Mo_form).1 62 = .ok (.iconst 2, 1) := by decide +kernel
theorem d_Mo_form_63 : decode (am_Mof y_Mo_form).1 63 = .ok (.iadd, 1) := by decide +kernel
theorem d_Mo_form_64 : decode (am_Mof y_Mo_form).1 64 = .ok (.iaload, 1) := by decide +kernel
theorem d_Mo_form_65 : decode (am_Mof y_Mo_form).1 65 = .ok (.bipush 48, 2) := by decide +kernel
theorem d_Mo_form_67 : decode (am_Mof y_Mo_form).1 67 = .ok (.isub, 1) := by decide +kernel
theorem d_Mo_form_68 : decode (am_Mof y_Mo_form).1 68 = .ok (.iconst (-1), 1) := by decide +kernel
theorem d_Mo_form_69 : decode (am_Mof y_Mo_form).1 69 = .ok (.invokevirtual 174, 3) := by decide +kernel
theorem d_Mo_form_72 : decode (am_Mof y_Mo_form).1 72 = .ok (.aload_n 0, 1) := by decide +kernel
theorem d_Mo_form_73 : decode (am_Mof y_Mo_form).1 73 = .ok (.getfield 154, 3) := by decide +kernel
theorem d_Mo_form_76 : decode (am_Mof y_Mo_form).1 76 = .ok (.aload_n 0, 1) := by decide +kernel
theorem d_Mo_form_77 : decode (am_Mof y_Mo_form).1 77 = .ok (.getfield 158, 3) := by decide +kernel
theorem d_Mo_form_80 : decode (am_Mof y_Mo_form).1 80 = .ok (.ldiv, 1) := by decide +kernel
theorem d_Mo_form_81 : decode (am_Mof y_Mo_form).1 81 = .ok (.lstore 5, 2) := by decide +kernel
theorem d_Mo_form_83 : decode (am_Mof y_Mo_form).1 83 = .ok (.lload 5, 2) := by decide +kernel
theorem d_Mo_form_85 : decode (am_Mof y_Mo_form).1 85 = .ok (.invokestatic 194, 3) := by decide +kernel
theorem d_Mo_form_88 : decode (am_Mof y_Mo_form).1 88 = .ok (.istore 4, 2) := by decide +kernel
theorem d_Mo_form_90 : decode (am_Mof y_Mo_form).1 90 = .ok (.iload_n 3, 1) := by decide +kernel
theorem d_Mo_form_91 : decode (am_Mof y_Mo_form).1 91 = .ok (.iload 4, 2) := by decide +kernel
theorem d_Mo_form_93 : decode (am_Mof y_Mo_form).1 93 = .ok (.if_icmp .ge 39, 3) := by decide +kernel
theorem d_Mo_form_96 : decode (am_Mof y_Mo_form).1 96 = .ok (.iload 7, 2) := by decide +kernel
theorem d_Mo_form_98 : decode (am_Mof y_Mo_form).1 98 = .ok (.ifCond .ne 12, 3) := by decide +kernel
theorem d_Mo_form_101 : decode (am_Mof y_Mo_form).1 101 = .ok (.aload_n 0, 1) := by decide +kernel
theorem d_Mo_form_102 : decode (am_Mof y_Mo_form).1 102 = .ok (.getfield 63, 3) := by decide +kernel
theorem d_Mo_form_105 : decode (am_Mof y_Mo_form).1 105 = .ok (.iload_n 2, 1) := by decide +kernel
theorem d_Mo_form_106 : decode (am_Mof y_Mo_form).1 106 = .ok (.iaload, 1) := by decide +kernel
theorem d_Mo_form_107 : decode (am_Mof y_Mo_form).1 107 = .ok (.goto 24, 3) := by decide +kernel
theorem d_Mo_form_110 : decode (am_Mof y_Mo_form).1 110 = .ok (.aload_n 0, 1) := by decide +kernel
theorem d_Mo_form_111 : decode (am_Mof y_Mo_form).1 111 = .ok (.getfield 141, 3) := by decide +kernel
theorem d_Mo_form_114 : decode (am_Mof y_Mo_form).1 114 = .ok (.ifCond .eq 15, 3) := by decide +kernel
theorem d_Mo_form_117 : decode (am_Mof y_Mo_form).1 117 = .ok (.bipush 48, 2) := by decide +kernel
theorem d_Mo_form_119 : decode (am_Mof y_Mo_form).1 119 = .ok (.lload 5, 2) := by decide +kernel
theorem d_Mo_form_121 : decode (am_Mof y_Mo_form).1 121 = .ok (.iload_n 3, 1) := by decide +kernel
theorem d_Mo_form_122 : decode (am_Mof y_Mo_form).1 122 = .ok (.invokestatic 201, 3) := by decide +kernel
theorem d_Mo_form_125 : decode (am_Mof y_Mo_form).1 125 = .ok (.iadd, 1) := by decide +kernel
theorem d_Mo_form_126 : decode (am_Mof y_Mo_form).1 126 = .ok (.goto 5, 3) := by decide +kernel
theorem d_Mo_form_129 : decode (am_Mof y_Mo_form).1 129 = .ok (.bipush 45, 2) := by decide +kernel
theorem d_Mo_form_131 : decode (am_Mof y_Mo_form).1 131 = .ok (.ireturn, 1) := by decide +kernel
theorem d_Mo_form_132 : decode (am_Mof y_Mo_form).1 132 = .ok (.iload_n 3, 1) := by decide +kernel
theorem d_Mo_form_133 : decode (am_Mof y_Mo_form).1 133 = .ok (.iload 4, 2) := by decide +kernel
theorem d_Mo_form_135 : decode (am_Mof y_Mo_form).1 135 = .ok (.isub, 1) := by decide +kernel
theorem d_Mo_form_136 : decode (am_Mof y_Mo_form).1 136 = .ok (.istore_n 3, 1) := by decide +kernel
theorem d_Mo_form_137 : decode (am_Mof y_Mo_form).1 137 = .ok (.iload_n 2, 1) := by decide +kernel
theorem d_Mo_form_138 : decode (am_Mof y_Mo_form).1 138 = .ok (.iload 7, 2) := by decide +kernel
theorem d_Mo_form_140 : decode (am_Mof y_Mo_form).1 140 = .ok (.ifCond .eq 7, 3) := by decide +kernel
theorem d_Mo_form_143 : decode (am_Mof y_Mo_form).1 143 = .ok (.iconst 3, 1) := by decide +kernel
theorem d_Mo_form_144 : decode (am_Mof y_Mo_form).1 144 = .ok (.goto 4, 3) := by decide +kernel
theorem d_Mo_form_147 : decode (am_Mof y_Mo_form).1 147 = .ok (.iconst 1, 1) := by decide +kernel
theorem d_Mo_form_148 : decode (am_Mof y_Mo_form).1 148 = .ok (.iadd, 1) := by decide +kernel
theorem d_Mo_form_149 : decode (am_Mof y_Mo_form).1 149 = .ok (.istore_n 2, 1) := by decide +kernel
theorem d_Mo_form_150 : decode (am_Mof y_Mo_form).1 150 = .ok (.goto (-140), 3) := by decide +kernel
theorem d_Mo_form_153 : decode (am_Mof y_Mo_form).1 153 = .ok (.iconst (-1), 1) := by decide +kernel
theorem d_Mo_form_154 : decode (am_Mof y_Mo_form).1 154 = .ok (.ireturn, 1) := by decide +kernel
theorem d_Mo_isNumberAt_0 : decode (am_Mof y_Mo_isNumberAt).1 0 = .ok (.iload_n 1, 1) := by decide +kernel
theorem d_Mo_isNumberAt_1 : decode (am_Mof y_Mo_isNumberAt).1 1 = .ok (.iconst 2, 1) := by decide +kernel
theorem d_Mo_isNumberAt_2 : decode (am_Mof y_Mo_isNumberAt).1 2 = .ok (.iadd, 1) := by decide +kernel
theorem d_Mo_isNumberAt_3 : decode (am_Mof y_Mo_isNumberAt).1 3 = .ok (.aload_n 0, 1) := by decide +kernel
theorem d_Mo_isNumberAt_4 : decode (am_Mof y_Mo_isNumberAt).1 4 = .ok (.getfield 191, 3) := by decide +kernel
theorem d_Mo_isNumberAt_7 : decode (am_Mof y_Mo_isNumberAt).1 7 = .ok (.if_icmp .ge 70, 3) := by decide +kernel
theorem d_Mo_isNumberAt_10 : decode (am_Mof y_Mo_isNumberAt).1 10 = .ok (.aload_n 0, 1) := by decide +kernel
theorem d_Mo_isNumberAt_11 : decode (am_Mof y_Mo_isNumberAt).1 11 = .ok (.getfield 63, 3) := by decide +kernel
theorem d_Mo_isNumberAt_14 : decode (am_Mof y_Mo_isNumberAt).1 14 = .ok (.iload_n 1, 1) := by decide +kernel
theorem d_Mo_isNumberAt_15 : decode (am_Mof y_Mo_isNumberAt).1 15 = .ok (.iaload, 1) := by decide +kernel
theorem d_Mo_isNumberAt_16 : decode (am_Mof y_Mo_isNumberAt).1 16 = .ok (.bipush 35, 2) := by decide +kernel
theorem d_Mo_isNumberAt_18 : decode (am_Mof y_Mo_isNumberAt).1 18 = .ok (.if_icmp .ne 59, 3) := by decide +kernel
theorem d_Mo_isNumberAt_21 : decode (am_Mof y_Mo_isNumberAt).1 21 = .ok (.aload_n 0, 1) := by decide +kernel
theorem d_Mo_isNumberAt_22 : decode (am_Mof y_Mo_isNumberAt).1 22 = .ok (.getfield 63, 3) := by decide +kernel
theorem d_Mo_isNumberAt_25 : decode (am_Mof y_Mo_isNumberAt).1 25 = .ok (.iload_n 1, 1) := by decide +kernel
theorem d_Mo_isNumberAt_26 : decode (am_Mof y_Mo_isNumberAt).1 26 = .ok (.iconst 1, 1) := by decide +kernel
theorem d_Mo_isNumberAt_27 : decode (am_Mof y_Mo_isNumberAt).1 27 = .ok (.iadd, 1) := by decide +kernel
theorem d_Mo_isNumberAt_28 : decode (am_Mof y_Mo_isNumberAt).1 28 = .ok (.iaload, 1) := by decide +kernel
theorem d_Mo_isNumberAt_29 : decode (am_Mof y_Mo_isNumberAt).1 29 = .ok (.bipush 48, 2) := by decide +kernel
theorem d_Mo_isNumberAt_31 : decode (am_Mof y_Mo_isNumberAt).1 31 = .ok (.if_icmp .lt 46, 3) := by decide +kernel
theorem d_Mo_isNumberAt_34 : decode (am_Mof y_Mo_isNumberAt).1 34 = .ok (.aload_n 0, 1) := by decide +kernel
theorem d_Mo_isNumberAt_35 : decode (am_Mof y_Mo_isNumberAt).1 35 = .ok (.getfield 63, 3) := by decide +kernel
theorem d_Mo_isNumberAt_38 : decode (am_Mof y_Mo_isNumberAt).1 38 = .ok (.iload_n 1, 1) := by decide +kernel
theorem d_Mo_isNumberAt_39 : decode (am_Mof y_Mo_isNumberAt).1 39 = .ok (.iconst 1, 1) := by decide +kernel
theorem d_Mo_isNumberAt_40 : decode (am_Mof y_Mo_isNumberAt).1 40 = .ok (.iadd, 1) := by decide +kernel
theorem d_Mo_isNumberAt_41 : decode (am_Mof y_Mo_isNumberAt).1 41 = .ok (.iaload, 1) := by decide +kernel
theorem d_Mo_isNumberAt_42 : decode (am_Mof y_Mo_isNumberAt).1 42 = .ok (.bipush 51, 2) := by decide +kernel
theorem d_Mo_isNumberAt_44 : decode (am_Mof y_Mo_isNumberAt).1 44 = .ok (.if_icmp .gt 33, 3) := by decide +kernel
theorem d_Mo_isNumberAt_47 : decode (am_Mof y_Mo_isNumberAt).1 47 = .ok (.aload_n 0, 1) := by decide +kernel
theorem d_Mo_isNumberAt_48 : decode (am_Mof y_Mo_isNumberAt).1 48 = .ok (.getfield 63, 3) := by decide +kernel
theorem d_Mo_isNumberAt_51 : decode (am_Mof y_Mo_isNumberAt).1 51 = .ok (.iload_n 1, 1) := by decide +kernel
theorem d_Mo_isNumberAt_52 : decode (am_Mof y_Mo_isNumberAt).1 52 = .ok (.iconst 2, 1) := by decide +kernel
theorem d_Mo_isNumberAt_53 : decode (am_Mof y_Mo_isNumberAt).1 53 = .ok (.iadd, 1) := by decide +kernel
theorem d_Mo_isNumberAt_54 : decode (am_Mof y_Mo_isNumberAt).1 54 = .ok (.iaload, 1) := by decide +kernel
theorem d_Mo_isNumberAt_55 : decode (am_Mof y_Mo_isNumberAt).1 55 = .ok (.bipush 48, 2) := by decide +kernel
theorem d_Mo_isNumberAt_57 : decode (am_Mof y_Mo_isNumberAt).1 57 = .ok (.if_icmp .lt 20, 3) := by decide +kernel
theorem d_Mo_isNumberAt_60 : decode (am_Mof y_Mo_isNumberAt).1 60 = .ok (.aload_n 0, 1) := by decide +kernel
theorem d_Mo_isNumberAt_61 : decode (am_Mof y_Mo_isNumberAt).1 61 = .ok (.getfield 63, 3) := by decide +kernel
theorem d_Mo_isNumberAt_64 : decode (am_Mof y_Mo_isNumberAt).1 64 = .ok (.iload_n 1, 1) := by decide +kernel
theorem d_Mo_isNumberAt_65 : decode (am_Mof y_Mo_isNumberAt).1 65 = .ok (.iconst 2, 1) := by decide +kernel
theorem d_Mo_isNumberAt_66 : decode (am_Mof y_Mo_isNumberAt).1 66 = .ok (.iadd, 1) := by decide +kernel
theorem d_Mo_isNumberAt_67 : decode (am_Mof y_Mo_isNumberAt).1 67 = .ok (.iaload, 1) := by decide +kernel
theorem d_Mo_isNumberAt_68 : decode (am_Mof y_Mo_isNumberAt).1 68 = .ok (.bipush 57, 2) := by decide +kernel
theorem d_Mo_isNumberAt_70 : decode (am_Mof y_Mo_isNumberAt).1 70 = .ok (.if_icmp .gt 7, 3) := by decide +kernel
theorem d_Mo_isNumberAt_73 : decode (am_Mof y_Mo_isNumberAt).1 73 = .ok (.iconst 1, 1) := by decide +kernel
theorem d_Mo_isNumberAt_74 : decode (am_Mof y_Mo_isNumberAt).1 74 = .ok (.goto 4, 3) := by decide +kernel
theorem d_Mo_isNumberAt_77 : decode (am_Mof y_Mo_isNumberAt).1 77 = .ok (.iconst 0, 1) := by decide +kernel
theorem d_Mo_isNumberAt_78 : decode (am_Mof y_Mo_isNumberAt).1 78 = .ok (.ireturn, 1) := by decide +kernel
theorem d_Mo_length_0 : decode (am_Mof y_Mo_length).1 0 = .ok (.iconst 1, 1) := by decide +kernel
theorem d_Mo_length_1 : decode (am_Mof y_Mo_length).1 1 = .ok (.istore_n 2, 1) := by decide +kernel
theorem d_Mo_length_2 : decode (am_Mof y_Mo_length).1 2 = .ok (.lload_n 0, 1) := by decide +kernel
theorem d_Mo_length_3 : decode (am_Mof y_Mo_length).1 3 = .ok (.ldc2_w 80, 3) := by decide +kernel
theorem d_Mo_length_6 : decode (am_Mof y_Mo_length).1 6 = .ok (.ldiv, 1) := by decide +kernel
theorem d_Mo_length_7 : decode (am_Mof y_Mo_length).1 7 = .ok (.lstore_n 3, 1) := by decide +kernel
theorem d_Mo_length_8 : decode (am_Mof y_Mo_length).1 8 = .ok (.lload_n 3, 1) := by decide +kernel
theorem d_Mo_length_9 : decode (am_Mof y_Mo_length).1 9 = .ok (.lconst 0, 1) := by decide +kernel
theorem d_Mo_length_10 : decode (am_Mof y_Mo_length).1 10 = .ok (.lcmp, 1) := by decide +kernel
theorem d_Mo_length_11 : decode (am_Mof y_Mo_length).1 11 = .ok (.ifCond .le 15, 3) := by decide +kernel
theorem d_Mo_length_14 : decode (am_Mof y_Mo_length).1 14 = .ok (.iinc 2 1, 3) := by decide +kernel
theorem d_Mo_length_17 : decode (am_Mof y_Mo_length).1 17 = .ok (.lload_n 3, 1) := by decide +kernel
theorem d_Mo_length_18 : decode (am_Mof y_Mo_length).1 18 = .ok (.ldc2_w 80, 3) := by decide +kernel
theorem d_Mo_length_21 : decode (am_Mof y_Mo_length).1 21 = .ok (.ldiv, 1) := by decide +kernel
theorem d_Mo_length_22 : decode (am_Mof y_Mo_length).1 22 = .ok (.lstore_n 3, 1) := by decide +kernel
theorem d_Mo_length_23 : decode (am_Mof y_Mo_length).1 23 = .ok (.goto (-15), 3) := by decide +kernel
theorem d_Mo_length_26 : decode (am_Mof y_Mo_length).1 26 = .ok (.iload_n 2, 1) := by decide +kernel
theorem d_Mo_length_27 : decode (am_Mof y_Mo_length).1 27 = .ok (.ireturn, 1) := by decide +kernel
theorem d_Mo_digit_0 : decode (am_Mof y_Mo_digit).1 0 = .ok (.lload_n 0, 1) := by decide +kernel
theorem d_Mo_digit_1 : decode (am_Mof y_Mo_digit).1 1 = .ok (.lstore_n 3, 1) := by decide +kernel
theorem d_Mo_digit_2 : decode (am_Mof y_Mo_digit).1 2 = .ok (.lload_n 0, 1) := by decide +kernel
theorem d_Mo_digit_3 : decode (am_Mof y_Mo_digit).1 3 = .ok (.invokestatic 194, 3) := by decide +kernel
theorem d_Mo_digit_6 : decode (am_Mof y_Mo_digit).1 6 = .ok (.iconst 1, 1) := by decide +kernel
theorem d_Mo_digit_7 : decode (am_Mof y_Mo_digit).1 7 = .ok (.isub, 1) := by decide +kernel
theorem d_Mo_digit_8 : decode (am_Mof y_Mo_digit).1 8 = .ok (.istore 5, 2) := by decide +kernel
theorem d_Mo_digit_10 : decode (am_Mof y_Mo_digit).1 10 = .ok (.iload 5, 2) := by decide +kernel
theorem d_Mo_digit_12 : decode (am_Mof y_Mo_digit).1 12 = .ok (.iload_n 2, 1) := by decide +kernel
theorem d_Mo_digit_13 : decode (am_Mof y_Mo_digit).1 13 = .ok (.if_icmp .le 15, 3) := by decide +kernel
theorem d_Mo_digit_16 : decode (am_Mof y_Mo_digit).1 16 = .ok (.lload_n 3, 1) := by decide +kernel
theorem d_Mo_digit_17 : decode (am_Mof y_Mo_digit).1 17 = .ok (.ldc2_w 80, 3) := by decide +kernel
theorem d_Mo_digit_20 : decode (am_Mof y_Mo_digit).1 20 = .ok (.ldiv, 1) := by decide +kernel
theorem d_Mo_digit_21 : decode (am_Mof y_Mo_digit).1 21 = .ok (.lstore_n 3, 1) := by decide +kernel
theorem d_Mo_digit_22 : decode (am_Mof y_Mo_digit).1 22 = .ok (.iinc 5 (-1), 3) := by decide +kernel
theorem d_Mo_digit_25 : decode (am_Mof y_Mo_digit).1 25 = .ok (.goto (-15), 3) := by decide +kernel
theorem d_Mo_digit_28 : decode (am_Mof y_Mo_digit).1 28 = .ok (.lload_n 3, 1) := by decide +kernel
theorem d_Mo_digit_29 : decode (am_Mof y_Mo_digit).1 29 = .ok (.ldc2_w 80, 3) := by decide +kernel
theorem d_Mo_digit_32 : decode (am_Mof y_Mo_digit).1 32 = .ok (.lrem, 1) := by decide +kernel
theorem d_Mo_digit_33 : decode (am_Mof y_Mo_digit).1 33 = .ok (.l2i, 1) := by decide +kernel
theorem d_Mo_digit_34 : decode (am_Mof y_Mo_digit).1 34 = .ok (.ireturn, 1) := by decide +kernel
