theorem d_Dr_init_0 : decode (am_Mof y_Dr_init).1 0 = .ok (.aload_n 0, 1) := by decide +kernel
theorem d_Dr_init_1 : decode (am_Mof y_Dr_init).1 1 = .ok (.invokespecial 3, 3) := by decide +kernel
theorem d_Dr_init_4 : decode (am_Mof y_Dr_init).1 4 = .ok (.aload_n 0, 1) := by decide +kernel
theorem d_Dr_init_5 : decode (am_Mof y_Dr_init).1 5 = .ok (.bipush 60, 2) := by decide +kernel
theorem d_Dr_init_7 : decode (am_Mof y_Dr_init).1 7 = .ok (.newarray .int, 2) := by decide +kernel
theorem d_Dr_init_9 : decode (am_Mof y_Dr_init).1 9 = .ok (.putfield 9, 3) := by decide +kernel
theorem d_Dr_init_12 : decode (am_Mof y_Dr_init).1 12 = .ok (.aload_n 0, 1) := by decide +kernel
theorem d_Dr_init_13 : decode (am_Mof y_Dr_init).1 13 = .ok (.iconst 0, 1) := by decide +kernel
theorem d_Dr_init_14 : decode (am_Mof y_Dr_init).1 14 = .ok (.putfield 15, 3) := by decide +kernel
theorem d_Dr_init_17 : decode (am_Mof y_Dr_init).1 17 = .ok (.return_, 1) := by decide +kernel
theorem d_Dr_take_0 : decode (am_Mof y_Dr_take).1 0 = .ok (.iconst 0, 1) := by decide +kernel
theorem d_Dr_take_1 : decode (am_Mof y_Dr_take).1 1 = .ok (.istore 5, 2) := by decide +kernel
theorem d_Dr_take_3 : decode (am_Mof y_Dr_take).1 3 = .ok (.iload 5, 2) := by decide +kernel
theorem d_Dr_take_5 : decode (am_Mof y_Dr_take).1 5 = .ok (.iload 4, 2) := by decide +kernel
theorem d_Dr_take_7 : decode (am_Mof y_Dr_take).1 7 = .ok (.if_icmp .ge 18, 3) := by decide +kernel
theorem d_Dr_take_10 : decode (am_Mof y_Dr_take).1 10 = .ok (.aload_n 0, 1) := by decide +kernel
theorem d_Dr_take_11 : decode (am_Mof y_Dr_take).1 11 = .ok (.getfield 9, 3) := by decide +kernel
theorem d_Dr_take_14 : decode (am_Mof y_Dr_take).1 14 = .ok (.iload 5, 2) := by decide +kernel
theorem d_Dr_take_16 : decode (am_Mof y_Dr_take).1 16 = .ok (.iload 5, 2) := by decide +kernel
theorem d_Dr_take_18 : decode (am_Mof y_Dr_take).1 18 = .ok (.iastore, 1) := by decide +kernel
theorem d_Dr_take_19 : decode (am_Mof y_Dr_take).1 19 = .ok (.iinc 5 1, 3) := by decide +kernel
theorem d_Dr_take_22 : decode (am_Mof y_Dr_take).1 22 = .ok (.goto (-19), 3) := by decide +kernel
theorem d_Dr_take_25 : decode (am_Mof y_Dr_take).1 25 = .ok (.lload_n 1, 1) := by decide +kernel
theorem d_Dr_take_26 : decode (am_Mof y_Dr_take).1 26 = .ok (.lstore 5, 2) := by decide +kernel
theorem d_Dr_take_28 : decode (am_Mof y_Dr_take).1 28 = .ok (.iconst 0, 1) := by decide +kernel
theorem d_Dr_take_29 : decode (am_Mof y_Dr_take).1 29 = .ok (.istore 7, 2) := by decide +kernel
theorem d_Dr_take_31 : decode (am_Mof y_Dr_take).1 31 = .ok (.iload 7, 2) := by decide +kernel
theorem d_Dr_take_33 : decode (am_Mof y_Dr_take).1 33 = .ok (.iload_n 3, 1) := by decide +kernel
theorem d_Dr_take_34 : decode (am_Mof y_Dr_take).1 34 = .ok (.if_icmp .ge 50, 3) := by decide +kernel
theorem d_Dr_take_37 : decode (am_Mof y_Dr_take).1 37 = .ok (.iload 7, 2) := by decide +kernel
theorem d_Dr_take_39 : decode (am_Mof y_Dr_take).1 39 = .ok (.iload 4, 2) := by decide +kernel
theorem d_Dr_take_41 : decode (am_Mof y_Dr_take).1 41 = .ok (.if_icmp .ge 43, 3) := by decide +kernel
theorem d_Dr_take_44 : decode (am_Mof y_Dr_take).1 44 = .ok (.lload 5, 2) := by decide +kernel
theorem d_Dr_take_46 : decode (am_Mof y_Dr_take).1 46 = .ok (.ldc2_w 19, 3) := by decide +kernel
theorem d_Dr_take_49 : decode (am_Mof y_Dr_take).1 49 = .ok (.lmul, 1) := by decide +kernel
theorem d_Dr_take_50 : decode (am_Mof y_Dr_take).1 50 = .ok (.ldc2_w 21, 3) := by decide +kernel
theorem d_Dr_take_53 : decode (am_Mof y_Dr_take).1 53 = .ok (.ladd, 1) := by decide +kernel
theorem d_Dr_take_54 : decode (am_Mof y_Dr_take).1 54 = .ok (.lstore 5, 2) := by decide +kernel
theorem d_Dr_take_56 : decode (am_Mof y_Dr_take).1 56 = .ok (.aload_n 0, 1) := by decide +kernel
theorem d_Dr_take_57 : decode (am_Mof y_Dr_take).1 57 = .ok (.iload 7, 2) := by decide +kernel
theorem d_Dr_take_59 : decode (am_Mof y_Dr_take).1 59 = .ok (.iload 7, 2) := by decide +kernel
theorem d_Dr_take_61 : decode (am_Mof y_Dr_take).1 61 = .ok (.lload 5, 2) := by decide +kernel
theorem d_Dr_take_63 : decode (am_Mof y_Dr_take).1 63 = .ok (.bipush 33, 2) := by decide +kernel
theorem d_Dr_take_65 : decode (am_Mof y_Dr_take).1 65 = .ok (.lushr, 1) := by decide +kernel
theorem d_Dr_take_66 : decode (am_Mof y_Dr_take).1 66 = .ok (.iload 4, 2) := by decide +kernel
theorem d_Dr_take_68 : decode (am_Mof y_Dr_take).1 68 = .ok (.iload 7, 2) := by decide +kernel
theorem d_Dr_take_70 : decode (am_Mof y_Dr_take).1 70 = .ok (.isub, 1) := by decide +kernel
theorem d_Dr_take_71 : decode (am_Mof y_Dr_take).1 71 = .ok (.i2l, 1) := by decide +kernel
theorem d_Dr_take_72 : decode (am_Mof y_Dr_take).1 72 = .ok (.lrem, 1) := by decide +kernel
theorem d_Dr_take_73 : decode (am_Mof y_Dr_take).1 73 = .ok (.l2i, 1) := by decide +kernel
theorem d_Dr_take_74 : decode (am_Mof y_Dr_take).1 74 = .ok (.iadd, 1) := by decide +kernel
theorem d_Dr_take_75 : decode (am_Mof y_Dr_take).1 75 = .ok (.invokevirtual 23, 3) := by decide +kernel
theorem d_Dr_take_78 : decode (am_Mof y_Dr_take).1 78 = .ok (.iinc 7 1, 3) := by decide +kernel
theorem d_Dr_take_81 : decode (am_Mof y_Dr_take).1 81 = .ok (.goto (-50), 3) := by decide +kernel
theorem d_Dr_take_84 : decode (am_Mof y_Dr_take).1 84 = .ok (.aload_n 0, 1) := by decide +kernel
theorem d_Dr_take_85 : decode (am_Mof y_Dr_take).1 85 = .ok (.iload_n 3, 1) := by decide +kernel
theorem d_Dr_take_86 : decode (am_Mof y_Dr_take).1 86 = .ok (.putfield 15, 3) := by decide +kernel
theorem d_Dr_take_89 : decode (am_Mof y_Dr_take).1 89 = .ok (.return_, 1) := by decide +kernel
theorem d_Dr_swap_0 : decode (am_Mof y_Dr_swap).1 0 = .ok (.aload_n 0, 1) := by decide +kernel
theorem d_Dr_swap_1 : decode (am_Mof y_Dr_swap).1 1 = .ok (.getfield 9, 3) := by decide +kernel
theorem d_Dr_swap_4 : decode (am_Mof y_Dr_swap).1 4 = .ok (.iload_n 1, 1) := by decide +kernel
theorem d_Dr_swap_5 : decode (am_Mof y_Dr_swap).1 5 = .ok (.iaload, 1) := by decide +kernel
theorem d_Dr_swap_6 : decode (am_Mof y_Dr_swap).1 6 = .ok (.istore_n 3, 1) := by decide +kernel
theorem d_Dr_swap_7 : decode (am_Mof y_Dr_swap).1 7 = .ok (.aload_n 0, 1) := by decide +kernel
theorem d_Dr_swap_8 : decode (am_Mof y_Dr_swap).1 8 = .ok (.getfield 9, 3) := by decide +kernel
theorem d_Dr_swap_11 : decode (am_Mof y_Dr_swap).1 11 = .ok (.iload_n 1, 1) := by decide +kernel
theorem d_Dr_swap_12 : decode (am_Mof y_Dr_swap).1 12 = .ok (.aload_n 0, 1) := by decide +kernel
theorem d_Dr_swap_13 : decode (am_Mof y_Dr_swap).1 13 = .ok (.getfield 9, 3) := by decide +kernel
theorem d_Dr_swap_16 : decode (am_Mof y_Dr_swap).1 16 = .ok (.iload_n 2, 1) := by decide +kernel
theorem d_Dr_swap_17 : decode (am_Mof y_Dr_swap).1 17 = .ok (.iaload, 1) := by decide +kernel
theorem d_Dr_swap_18 : decode (am_Mof y_Dr_swap).1 18 = .ok (.iastore, 1) := by decide +kernel
theorem d_Dr_swap_19 : decode (am_Mof y_Dr_swap).1 19 = .ok (.aload_n 0, 1) := by decide +kernel
theorem d_Dr_swap_20 : decode (am_Mof y_Dr_swap).1 20 = .ok (.getfield 9, 3) := by decide +kernel
theorem d_Dr_swap_23 : decode (am_Mof y_Dr_swap).1 23 = .ok (.iload_n 2, 1) := by decide +kernel
theorem d_Dr_swap_24 : decode (am_Mof y_Dr_swap).1 24 = .ok (.iload_n 3, 1) := by decide +kernel
theorem d_Dr_swap_25 : decode (am_Mof y_Dr_swap).1 25 = .ok (.iastore, 1) := by decide +kernel
theorem d_Dr_swap_26 : decode (am_Mof y_Dr_swap).1 26 = .ok (.return_, 1) := by decide +kernel
theorem d_Dr_row_0 : decode (am_Mof y_Dr_row).1 0 = .ok (.iload_n 1, 1) := by decide +kernel
theorem d_Dr_row_1 : decode (am_Mof y_Dr_row).1 1 = .ok (.ifCond .lt 20, 3) := by decide +kernel
theorem d_Dr_row_4 : decode (am_Mof y_Dr_row).1 4 = .ok (.iload_n 1, 1) := by decide +kernel
theorem d_Dr_row_5 : decode (am_Mof y_Dr_row).1 5 = .ok (.aload_n 0, 1) := by decide +kernel
theorem d_Dr_row_6 : decode (am_Mof y_Dr_row).1 6 = .ok (.getfield 15, 3) := by decide +kernel
theorem d_Dr_row_9 : decode (am_Mof y_Dr_row).1 9 = .ok (.if_icmp .ge 12, 3) := by decide +kernel
theorem d_Dr_row_12 : decode (am_Mof y_Dr_row).1 12 = .ok (.aload_n 0, 1) := by decide +kernel
theorem d_Dr_row_13 : decode (am_Mof y_Dr_row).1 13 = .ok (.getfield 9, 3) := by decide +kernel
theorem d_Dr_row_16 : decode (am_Mof y_Dr_row).1 16 = .ok (.iload_n 1, 1) := by decide +kernel
theorem d_Dr_row_17 : decode (am_Mof y_Dr_row).1 17 = .ok (.iaload, 1) := by decide +kernel
theorem d_Dr_row_18 : decode (am_Mof y_Dr_row).1 18 = .ok (.goto 4, 3) := by decide +kernel
theorem d_Dr_row_21 : decode (am_Mof y_Dr_row).1 21 = .ok (.iconst (-1), 1) := by decide +kernel
theorem d_Dr_row_22 : decode (am_Mof y_Dr_row).1 22 = .ok (.ireturn, 1) := by decide +kernel
theorem d_Fe_init_0 : decode (am_Mof y_Fe_init).1 0 = .ok (.aload_n 0, 1) := by decide +kernel
theorem d_Fe_init_1 : decode (am_Mof y_Fe_init).1 1 = .ok (.invokespecial 3, 3) := by decide +kernel
theorem d_Fe_init_4 : decode (am_Mof y_Fe_init).1 4 = .ok (.aload_n 0, 1) := by decide +kernel
theorem d_Fe_init_5 : decode (am_Mof y_Fe_init).1 5 = .ok (.bipush 60, 2) := by decide +kernel
theorem d_Fe_init_7 : decode (am_Mof y_Fe_init).1 7 = .ok (.newarray .int, 2) := by decide +kernel
theorem d_Fe_init_9 : decode (am_Mof y_Fe_init).1 9 = .ok (.putfield 9, 3) := by decide +kernel
theorem d_Fe_init_12 : decode (am_Mof y_Fe_init).1 12 = .ok (.aload_n 0, 1) := by decide +kernel
theorem d_Fe_init_13 : decode (am_Mof y_Fe_init).1 13 = .ok (.bipush 60, 2) := by decide +kernel
theorem d_Fe_init_15 : decode (am_Mof y_Fe_init).1 15 = .ok (.newarray .int, 2) := by decide +kernel
theorem d_Fe_init_17 : decode (am_Mof y_Fe_init).1 17 = .ok (.putfield 15, 3) := by decide +kernel
theorem d_Fe_init_20 : decode (am_Mof y_Fe_init).1 20 = .ok (.aload_n 0, 1) := by decide +kernel
theorem d_Fe_init_21 : decode (am_Mof y_Fe_init).1 21 = .ok (.bipush 60, 2) := by decide +kernel
theorem d_Fe_init_23 : decode (am_Mof y_Fe_init).1 23 = .ok (.newarray .int, 2) := by decide +kernel
theorem d_Fe_init_25 : decode (am_Mof y_Fe_init).1 25 = .ok (.putfield 18, 3) := by decide +kernel
theorem d_Fe_init_28 : decode (am_Mof y_Fe_init).1 28 = .ok (.aload_n 0, 1) := by decide +kernel
theorem d_Fe_init_29 : decode (am_Mof y_Fe_init).1 29 = .ok (.bipush 60, 2) := by decide +kernel
theorem d_Fe_init_31 : decode (am_Mof y_Fe_init).1 31 = .ok (.newarray .int, 2) := by decide +kernel
theorem d_Fe_init_33 : decode (am_Mof y_Fe_init).1 33 = .ok (.putfield 21, 3) := by decide +kernel
theorem d_Fe_init_36 : decode (am_Mof y_Fe_init).1 36 = .ok (.aload_n 0, 1) := by decide +kernel
theorem d_Fe_init_37 : decode (am_Mof y_Fe_init).1 37 = .ok (.bipush 60, 2) := by decide +kernel
theorem d_Fe_init_39 : decode (am_Mof y_Fe_init).1 39 = .ok (.newarray .long, 2) := by decide +kernel
theorem d_Fe_init_41 : decode (am_Mof y_Fe_init).1 41 = .ok (.putfield 24, 3) := by decide +kernel
theorem d_Fe_init_44 : decode (am_Mof y_Fe_init).1 44 = .ok (.aload_n 0, 1) := by decide +kernel
theorem d_Fe_init_45 : decode (am_Mof y_Fe_init).1 45 = .ok (.iconst 0, 1) := by decide +kernel
theorem d_Fe_init_46 : decode (am_Mof y_Fe_init).1 46 = .ok (.putfield 28, 3) := by decide +kernel
theorem d_Fe_init_49 : decode (am_Mof y_Fe_init).1 49 = .ok (.return_, 1) := by decide +kernel
theorem d_Fe_add_0 : decode (am_Mof y_Fe_add).1 0 = .ok (.aload_n 0, 1) := by decide +kernel
theorem d_Fe_add_1 : decode (am_Mof y_Fe_add).1 1 = .ok (.getfield 28, 3) := by decide +kernel
theorem d_Fe_add_4 : decode (am_Mof y_Fe_add).1 4 = .ok (.bipush 60, 2) := by decide +kernel
theorem d_Fe_add_6 : decode (am_Mof y_Fe_add).1 6 = .ok (.if_icmp .lt 5, 3) := by decide +kernel
theorem d_Fe_add_9 : decode (am_Mof y_Fe_add).1 9 = .ok (.iconst 0, 1) := by decide +kernel
theorem d_Fe_add_10 : decode (am_Mof y_Fe_add).1 10 = .ok (.ireturn, 1) := by decide +kernel
theorem d_Fe_add_11 : decode (am_Mof y_Fe_add).1 11 = .ok (.aload_n 0, 1) := by decide +kernel
theorem d_Fe_add_12 : decode (am_Mof y_Fe_add).1 12 = .ok (.getfield 9, 3) := by decide +kernel
theorem d_Fe_add_15 : decode (am_Mof y_Fe_add).1 15 = .ok (.aload_n 0, 1) := by decide +kernel
theorem d_Fe_add_16 : decode (am_Mof y_Fe_add).1 16 = .ok (.getfield 28, 3) := by decide +kernel
theorem d_Fe_add_19 : decode (am_Mof y_Fe_add).1 19 = .ok (.iload_n 1, 1) := by decide +kernel
theorem d_Fe_add_20 : decode (am_Mof y_Fe_add).1 20 = .ok (.iastore, 1) := by decide +kernel
theorem d_Fe_add_21 : decode (am_Mof y_Fe_add).1 21 = .ok (.aload_n 0, 1) := by decide +kernel
theorem d_Fe_add_22 : decode (am_Mof y_Fe_add).1 22 = .ok (.getfield 15, 3) := by decide +kernel
theorem d_Fe_add_25 : decode (am_Mof y_Fe_add).1 25 = .ok (.aload_n 0, 1) := by decide +kernel
theorem d_Fe_add_26 : decode (am_Mof y_Fe_add).1 26 = .ok (.getfield 28, 3) := by decide +kernel
theorem d_Fe_add_29 : decode (am_Mof y_Fe_add).1 29 = .ok (.iload_n 2, 1) := by decide +kernel
theorem d_Fe_add_30 : decode (am_Mof y_Fe_add).1 30 = .ok (.iastore, 1) := by decide +kernel
theorem d_Fe_add_31 : decode (am_Mof y_Fe_add).1 31 = .ok (.aload_n 0, 1) := by decide +kernel
theorem d_Fe_add_32 : decode (am_Mof y_Fe_add).1 32 = .ok (.getfield 18, 3) := by decide +kernel
theorem d_Fe_add_35 : decode (am_Mof y_Fe_add).1 35 = .ok (.aload_n 0, 1) := by decide +kernel
theorem d_Fe_add_36 : decode (am_Mof y_Fe_add).1 36 = .ok (.getfield 28, 3) := by decide +kernel
theorem d_Fe_add_39 : decode (am_Mof y_Fe_add).1 39 = .ok (.iload 5, 2) := by decide +kernel
theorem d_Fe_add_41 : decode (am_Mof y_Fe_add).1 41 = .ok (.iastore, 1) := by decide +kernel
theorem d_Fe_add_42 : decode (am_Mof y_Fe_add).1 42 = .ok (.aload_n 0, 1) := by decide +kernel
theorem d_Fe_add_43 : decode (am_Mof y_Fe_add).1 43 = .ok (.getfield 21, 3) := by decide +kernel
theorem d_Fe_add_46 : decode (am_Mof y_Fe_add).1 46 = .ok (.aload_n 0, 1) := by decide +kernel
theorem d_Fe_add_47 : decode (am_Mof y_Fe_add).1 47 = .ok (.getfield 28, 3) := by decide +kernel
theorem d_Fe_add_50 : decode (am_Mof y_Fe_add).1 50 = .ok (.iload 6, 2) := by decide +kernel
theorem d_Fe_add_52 : decode (am_Mof y_Fe_add).1 52 = .ok (.iastore, 1) := by decide +kernel
theorem d_Fe_add_53 : decode (am_Mof y_Fe_add).1 53 = .ok (.aload_n 0, 1) := by decide +kernel
theorem d_Fe_add_54 : decode (am_Mof y_Fe_add).1 54 = .ok (.getfield 24, 3) := by decide +kernel
theorem d_Fe_add_57 : decode (am_Mof y_Fe_add).1 57 = .ok (.aload_n 0, 1) := by decide +kernel
theorem d_Fe_add_58 : decode (am_Mof y_Fe_add).1 58 = .ok (.getfield 28, 3) := by decide +kernel
theorem d_Fe_add_61 : decode (am_Mof y_Fe_add).1 61 = .ok (.lload_n 3, 1) := by decide +kernel
theorem d_Fe_add_62 : decode (am_Mof y_Fe_add).1 62 = .ok (.lastore, 1) := by decide +kernel
theorem d_Fe_add_63 : decode (am_Mof y_Fe_add).1 63 = .ok (.aload_n 0, 1) := by decide +kernel
theorem d_Fe_add_64 : decode (am_Mof y_Fe_add).1 64 = .ok (.dup, 1) := by decide +kernel
theorem d_Fe_add_65 : decode (am_Mof y_Fe_add).1 65 = .ok (.getfield 28, 3) := by decide +kernel
theorem d_Fe_add_68 : decode (am_Mof y_Fe_add).1 68 = .ok (.iconst 1, 1) := by decide +kernel
theorem d_Fe_add_69 : decode (am_Mof y_Fe_add).1 69 = .ok (.iadd, 1) := by decide +kernel
theorem d_Fe_add_70 : decode (am_Mof y_Fe_add).1 70 = .ok (.putfield 28, 3) := by decide +kernel
theorem d_Fe_add_73 : decode (am_Mof y_Fe_add).1 73 = .ok (.iconst 1, 1) := by decide +kernel
theorem d_Fe_add_74 : decode (am_Mof y_Fe_add).1 74 = .ok (.ireturn, 1) := by decide +kernel
theorem d_Fe_size_0 : decode (am_Mof y_Fe_size).1 0 = .ok (.aload_n 0, 1) := by decide +kernel
theorem d_Fe_size_1 : decode (am_Mof y_Fe_size).1 1 = .ok (.getfield 28, 3) := by decide +kernel
theorem d_Fe_size_4 : decode (am_Mof y_Fe_size).1 4 = .ok (.ireturn, 1) := by decide +kernel
theorem d_Fe_kindOf_0 : decode (am_Mof y_Fe_kindOf).1 0 = .ok (.aload_n 0, 1) := by decide +kernel
theorem d_Fe_kindOf_1 : decode (am_Mof y_Fe_kindOf).1 1 = .ok (.getfield 15, 3) := by decide +kernel
theorem d_Fe_kindOf_4 : decode (am_Mof y_Fe_kindOf).1 4 = .ok (.iload_n 1, 1) := by decide +kernel
theorem d_Fe_kindOf_5 : decode (am_Mof y_Fe_kindOf).1 5 = .ok (.iaload, 1) := by decide +kernel
theorem d_Fe_kindOf_6 : decode (am_Mof y_Fe_kindOf).1 6 = .ok (.ireturn, 1) := by decide +kernel
theorem d_Fe_yearOf_0 : decode (am_Mof y_Fe_yearOf).1 0 = .ok (.aload_n 0, 1) := by decide +kernel
theorem d_Fe_yearOf_1 : decode (am_Mof y_Fe_yearOf).1 1 = .ok (.getfield 18, 3) := by decide +kernel
theorem d_Fe_yearOf_4 : decode (am_Mof y_Fe_yearOf).1 4 = .ok (.iload_n 1, 1) := by decide +kernel
theorem d_Fe_yearOf_5 : decode (am_Mof y_Fe_yearOf).1 5 = .ok (.iaload, 1) := by decide +kernel
theorem d_Fe_yearOf_6 : decode (am_Mof y_Fe_yearOf).1 6 = .ok (.ireturn, 1) := by decide +kernel
theorem d_Fe_plantOf_0 : decode (am_Mof y_Fe_plantOf).1 0 = .ok (.aload_n 0, 1) := by decide +kernel
theorem d_Fe_plantOf_1 : decode (am_Mof y_Fe_plantOf).1 1 = .ok (.getfield 9, 3) := by decide +kernel
theorem d_Fe_plantOf_4 : decode (am_Mof y_Fe_plantOf).1 4 = .ok (.iload_n 1, 1) := by decide +kernel
theorem d_Fe_plantOf_5 : decode (am_Mof y_Fe_plantOf).1 5 = .ok (.iaload, 1) := by decide +kernel
theorem d_Fe_plantOf_6 : decode (am_Mof y_Fe_plantOf).1 6 = .ok (.ireturn, 1) := by decide +kernel
theorem d_Fe_gramsOf_0 : decode (am_Mof y_Fe_gramsOf).1 0 = .ok (.aload_n 0, 1) := by decide +kernel
theorem d_Fe_gramsOf_1 : decode (am_Mof y_Fe_gramsOf).1 1 = .ok (.getfield 24, 3) := by decide +kernel
theorem d_Fe_gramsOf_4 : decode (am_Mof y_Fe_gramsOf).1 4 = .ok (.iload_n 1, 1) := by decide +kernel
theorem d_Fe_gramsOf_5 : decode (am_Mof y_Fe_gramsOf).1 5 = .ok (.laload, 1) := by decide +kernel
theorem d_Fe_gramsOf_6 : decode (am_Mof y_Fe_gramsOf).1 6 = .ok (.lreturn, 1) := by decide +kernel
theorem d_Fe_countryOf_0 : decode (am_Mof y_Fe_countryOf).1 0 = .ok (.aload_n 0, 1) := by decide +kernel
theorem d_Fe_countryOf_1 : decode (am_Mof y_Fe_countryOf).1 1 = .ok (.getfield 21, 3) := by decide +kernel
theorem d_Fe_countryOf_4 : decode (am_Mof y_Fe_countryOf).1 4 = .ok (.iload_n 1, 1) := by decide +kernel
theorem d_Fe_countryOf_5 : decode (am_Mof y_Fe_countryOf).1 5 = .ok (.iaload, 1) := by decide +kernel
theorem d_Fe_countryOf_6 : decode (am_Mof y_Fe_countryOf).1 6 = .ok (.ireturn, 1) := by decide +kernel
theorem d_Pl_init_0 : decode (am_Mof y_Pl_init).1 0 = .ok (.aload_n 0, 1) := by decide +kernel
theorem d_Pl_init_1 : decode (am_Mof y_Pl_init).1 1 = .ok (.invokespecial 3, 3) := by decide +kernel
theorem d_Pl_init_4 : decode (am_Mof y_Pl_init).1 4 = .ok (.aload_n 0, 1) := by decide +kernel
theorem d_Pl_init_5 : decode (am_Mof y_Pl_init).1 5 = .ok (.bipush 25, 2) := by decide +kernel
theorem d_Pl_init_7 : decode (am_Mof y_Pl_init).1 7 = .ok (.newarray .int, 2) := by decide +kernel
theorem d_Pl_init_9 : decode (am_Mof y_Pl_init).1 9 = .ok (.putfield 9, 3) := by decide +kernel
theorem d_Pl_init_12 : decode (am_Mof y_Pl_init).1 12 = .ok (.aload_n 0, 1) := by decide +kernel
theorem d_Pl_init_13 : decode (am_Mof y_Pl_init).1 13 = .ok (.iconst 5, 1) := by decide +kernel
theorem d_Pl_init_14 : decode (am_Mof y_Pl_init).1 14 = .ok (.newarray .int, 2) := by decide +kernel
theorem d_Pl_init_16 : decode (am_Mof y_Pl_init).1 16 = .ok (.putfield 15, 3) := by decide +kernel
theorem d_Pl_init_19 : decode (am_Mof y_Pl_init).1 19 = .ok (.aload_n 0, 1) := by decide +kernel
theorem d_Pl_init_20 : decode (am_Mof y_Pl_init).1 20 = .ok (.bipush 20, 2) := by decide +kernel
theorem d_Pl_init_22 : decode (am_Mof y_Pl_init).1 22 = .ok (.newarray .boolean, 2) := by decide +kernel
theorem d_Pl_init_24 : decode (am_Mof y_Pl_init).1 24 = .ok (.putfield 18, 3) := by decide +kernel
theorem d_Pl_init_27 : decode (am_Mof y_Pl_init).1 27 = .ok (.aload_n 0, 1) := by decide +kernel
theorem d_Pl_init_28 : decode (am_Mof y_Pl_init).1 28 = .ok (.iconst 5, 1) := by decide +kernel
theorem d_Pl_init_29 : decode (am_Mof y_Pl_init).1 29 = .ok (.newarray .boolean, 2) := by decide +kernel
theorem d_Pl_init_31 : decode (am_Mof y_Pl_init).1 31 = .ok (.putfield 22, 3) := by decide +kernel
theorem d_Pl_init_34 : decode (am_Mof y_Pl_init).1 34 = .ok (.aload_n 0, 1) := by decide +kernel
theorem d_Pl_init_35 : decode (am_Mof y_Pl_init).1 35 = .ok (.iconst 5, 1) := by decide +kernel
theorem d_Pl_init_36 : decode (am_Mof y_Pl_init).1 36 = .ok (.newarray .int, 2) := by decide +kernel
theorem d_Pl_init_38 : decode (am_Mof y_Pl_init).1 38 = .ok (.putfield 25, 3) := by decide +kernel
theorem d_Pl_init_41 : decode (am_Mof y_Pl_init).1 41 = .ok (.aload_n 0, 1) := by decide +kernel
theorem d_Pl_init_42 : decode (am_Mof y_Pl_init).1 42 = .ok (.iconst 5, 1) := by decide +kernel
theorem d_Pl_init_43 : decode (am_Mof y_Pl_init).1 43 = .ok (.newarray .boolean, 2) := by decide +kernel
theorem d_Pl_init_45 : decode (am_Mof y_Pl_init).1 45 = .ok (.putfield 28, 3) := by decide +kernel
theorem d_Pl_init_48 : decode (am_Mof y_Pl_init).1 48 = .ok (.aload_n 0, 1) := by decide +kernel
theorem d_Pl_init_49 : decode (am_Mof y_Pl_init).1 49 = .ok (.iconst 0, 1) := by decide +kernel
theorem d_Pl_init_50 : decode (am_Mof y_Pl_init).1 50 = .ok (.putfield 31, 3) := by decide +kernel
theorem d_Pl_init_53 : decode (am_Mof y_Pl_init).1 53 = .ok (.return_, 1) := by decide +kernel
theorem d_Pl_add_0 : decode (am_Mof y_Pl_add).1 0 = .ok (.aload_n 0, 1) := by decide +kernel
theorem d_Pl_add_1 : decode (am_Mof y_Pl_add).1 1 = .ok (.getfield 31, 3) := by decide +kernel
theorem d_Pl_add_4 : decode (am_Mof y_Pl_add).1 4 = .ok (.iconst 5, 1) := by decide +kernel
theorem d_Pl_add_5 : decode (am_Mof y_Pl_add).1 5 = .ok (.if_icmp .lt 5, 3) := by decide +kernel
theorem d_Pl_add_8 : decode (am_Mof y_Pl_add).1 8 = .ok (.iconst (-1), 1) := by decide +kernel
theorem d_Pl_add_9 : decode (am_Mof y_Pl_add).1 9 = .ok (.ireturn, 1) := by decide +kernel
theorem d_Pl_add_10 : decode (am_Mof y_Pl_add).1 10 = .ok (.aload_n 0, 1) := by decide +kernel
theorem d_Pl_add_11 : decode (am_Mof y_Pl_add).1 11 = .ok (.dup, 1) := by decide +kernel
theorem d_Pl_add_12 : decode (am_Mof y_Pl_add).1 12 = .ok (.getfield 31, 3) := by decide +kernel
theorem d_Pl_add_15 : decode (am_Mof y_Pl_add).1 15 = .ok (.iconst 1, 1) := by decide +kernel
theorem d_Pl_add_16 : decode (am_Mof y_Pl_add).1 16 = .ok (.iadd, 1) := by decide +kernel
theorem d_Pl_add_17 : decode (am_Mof y_Pl_add).1 17 = .ok (.putfield 31, 3) := by decide +kernel
theorem d_Pl_add_20 : decode (am_Mof y_Pl_add).1 20 = .ok (.aload_n 0, 1) := by decide +kernel
theorem d_Pl_add_21 : decode (am_Mof y_Pl_add).1 21 = .ok (.getfield 31, 3) := by decide +kernel
theorem d_Pl_add_24 : decode (am_Mof y_Pl_add).1 24 = .ok (.iconst 1, 1) := by decide +kernel
theorem d_Pl_add_25 : decode (am_Mof y_Pl_add).1 25 = .ok (.isub, 1) := by decide +kernel
theorem d_Pl_add_26 : decode (am_Mof y_Pl_add).1 26 = .ok (.ireturn, 1) := by decide +kernel
theorem d_Pl_has_0 : decode (am_Mof y_Pl_has).1 0 = .ok (.iload_n 1, 1) := by decide +kernel
theorem d_Pl_has_1 : decode (am_Mof y_Pl_has).1 1 = .ok (.ifCond .lt 15, 3) := by decide +kernel
theorem d_Pl_has_4 : decode (am_Mof y_Pl_has).1 4 = .ok (.iload_n 1, 1) := by decide +kernel
theorem d_Pl_has_5 : decode (am_Mof y_Pl_has).1 5 = .ok (.aload_n 0, 1) := by decide +kernel
theorem d_Pl_has_6 : decode (am_Mof y_Pl_has).1 6 = .ok (.getfield 31, 3) := by decide +kernel
theorem d_Pl_has_9 : decode (am_Mof y_Pl_has).1 9 = .ok (.if_icmp .ge 7, 3) := by decide +kernel
theorem d_Pl_has_12 : decode (am_Mof y_Pl_has).1 12 = .ok (.iconst 1, 1) := by decide +kernel
theorem d_Pl_has_13 : decode (am_Mof y_Pl_has).1 13 = .ok (.goto 4, 3) := by decide +kernel
theorem d_Pl_has_16 : decode (am_Mof y_Pl_has).1 16 = .ok (.iconst 0, 1) := by decide +kernel
theorem d_Pl_has_17 : decode (am_Mof y_Pl_has).1 17 = .ok (.ireturn, 1) := by decide +kernel
theorem d_Pl_setShare_0 : decode (am_Mof y_Pl_setShare).1 0 = .ok (.aload_n 0, 1) := by decide +kernel
theorem d_Pl_setShare_1 : decode (am_Mof y_Pl_setShare).1 1 = .ok (.getfield 15, 3) := by decide +kernel
theorem d_Pl_setShare_4 : decode (am_Mof y_Pl_setShare).1 4 = .ok (.iload_n 1, 1) := by decide +kernel
theorem d_Pl_setShare_5 : decode (am_Mof y_Pl_setShare).1 5 = .ok (.iaload, 1) := by decide +kernel
theorem d_Pl_setShare_6 : decode (am_Mof y_Pl_setShare).1 6 = .ok (.aload_n 0, 1) := by decide +kernel
theorem d_Pl_setShare_7 : decode (am_Mof y_Pl_setShare).1 7 = .ok (.iload_n 1, 1) := by decide +kernel
theorem d_Pl_setShare_8 : decode (am_Mof y_Pl_setShare).1 8 = .ok (.iload_n 2, 1) := by decide +kernel
theorem d_Pl_setShare_9 : decode (am_Mof y_Pl_setShare).1 9 = .ok (.invokevirtual 35, 3) := by decide +kernel
theorem d_Pl_setShare_12 : decode (am_Mof y_Pl_setShare).1 12 = .ok (.isub, 1) := by decide +kernel
theorem d_Pl_setShare_13 : decode (am_Mof y_Pl_setShare).1 13 = .ok (.iload_n 3, 1) := by decide +kernel
theorem d_Pl_setShare_14 : decode (am_Mof y_Pl_setShare).1 14 = .ok (.iadd, 1) := by decide +kernel
theorem d_Pl_setShare_15 : decode (am_Mof y_Pl_setShare).1 15 = .ok (.istore 4, 2) := by decide +kernel
theorem d_Pl_setShare_17 : decode (am_Mof y_Pl_setShare).1 17 = .ok (.iload 4, 2) := by decide +kernel
theorem d_Pl_setShare_19 : decode (am_Mof y_Pl_setShare).1 19 = .ok (.bipush 10, 2) := by decide +kernel
theorem d_Pl_setShare_21 : decode (am_Mof y_Pl_setShare).1 21 = .ok (.if_icmp .le 5, 3) := by decide +kernel
theorem d_Pl_setShare_24 : decode (am_Mof y_Pl_setShare).1 24 = .ok (.iconst 0, 1) := by decide +kernel
theorem d_Pl_setShare_25 : decode (am_Mof y_Pl_setShare).1 25 = .ok (.ireturn, 1) := by decide +kernel
theorem d_Pl_setShare_26 : decode (am_Mof y_Pl_setShare).1 26 = .ok (.aload_n 0, 1) := by decide +kernel
theorem d_Pl_setShare_27 : decode (am_Mof y_Pl_setShare).1 27 = .ok (.getfield 9, 3) := by decide +kernel
theorem d_Pl_setShare_30 : decode (am_Mof y_Pl_setShare).1 30 = .ok (.iload_n 1, 1) := by decide +kernel
theorem d_Pl_setShare_31 : decode (am_Mof y_Pl_setShare).1 31 = .ok (.iconst 5, 1) := by decide +kernel
theorem d_Pl_setShare_32 : decode (am_Mof y_Pl_setShare).1 32 = .ok (.imul, 1) := by decide +kernel
theorem d_Pl_setShare_33 : decode (am_Mof y_Pl_setShare).1 33 = .ok (.iload_n 2, 1) := by decide +kernel
theorem d_Pl_setShare_34 : decode (am_Mof y_Pl_setShare).1 34 = .ok (.iadd, 1) := by decide +kernel
theorem d_Pl_setShare_35 : decode (am_Mof y_Pl_setShare).1 35 = .ok (.iload_n 3, 1) := by decide +kernel
theorem d_Pl_setShare_36 : decode (am_Mof y_Pl_setShare).1 36 = .ok (.iastore, 1) := by decide +kernel
theorem d_Pl_setShare_37 : decode (am_Mof y_Pl_setShare).1 37 = .ok (.aload_n 0, 1) := by decide +kernel
theorem d_Pl_setShare_38 : decode (am_Mof y_Pl_setShare).1 38 = .ok (.getfield 15, 3) := by decide +kernel
theorem d_Pl_setShare_41 : decode (am_Mof y_Pl_setShare).1 41 = .ok (.iload_n 1, 1) := by decide +kernel
theorem d_Pl_setShare_42 : decode (am_Mof y_Pl_setShare).1 42 = .ok (.iload 4, 2) := by decide +kernel
theorem d_Pl_setShare_44 : decode (am_Mof y_Pl_setShare).1 44 = .ok (.iastore, 1) := by decide +kernel
theorem d_Pl_setShare_45 : decode (am_Mof y_Pl_setShare).1 45 = .ok (.iconst 1, 1) := by decide +kernel
theorem d_Pl_setShare_46 : decode (am_Mof y_Pl_setShare).1 46 = .ok (.ireturn, 1) := by decide +kernel
theorem d_Pl_shareOf_0 : decode (am_Mof y_Pl_shareOf).1 0 = .ok (.aload_n 0, 1) := by decide +kernel
theorem d_Pl_shareOf_1 : decode (am_Mof y_Pl_shareOf).1 1 = .ok (.getfield 9, 3) := by decide +kernel
theorem d_Pl_shareOf_4 : decode (am_Mof y_Pl_shareOf).1 4 = .ok (.iload_n 1, 1) := by decide +kernel
theorem d_Pl_shareOf_5 : decode (am_Mof y_Pl_shareOf).1 5 = .ok (.iconst 5, 1) := by decide +kernel
theorem d_Pl_shareOf_6 : decode (am_Mof y_Pl_shareOf).1 6 = .ok (.imul, 1) := by decide +kernel
theorem d_Pl_shareOf_7 : decode (am_Mof y_Pl_shareOf).1 7 = .ok (.iload_n 2, 1) := by decide +kernel
theorem d_Pl_shareOf_8 : decode (am_Mof y_Pl_shareOf).1 8 = .ok (.iadd, 1) := by decide +kernel
theorem d_Pl_shareOf_9 : decode (am_Mof y_Pl_shareOf).1 9 = .ok (.iaload, 1) := by decide +kernel
theorem d_Pl_shareOf_10 : decode (am_Mof y_Pl_shareOf).1 10 = .ok (.ireturn, 1) := by decide +kernel
theorem d_Pl_setPoint_0 : decode (am_Mof y_Pl_setPoint).1 0 = .ok (.aload_n 0, 1) := by decide +kernel
theorem d_Pl_setPoint_1 : decode (am_Mof y_Pl_setPoint).1 1 = .ok (.iload_n 1, 1) := by decide +kernel
theorem d_Pl_setPoint_2 : decode (am_Mof y_Pl_setPoint).1 2 = .ok (.iload_n 2, 1) := by decide +kernel
theorem d_Pl_setPoint_3 : decode (am_Mof y_Pl_setPoint).1 3 = .ok (.invokevirtual 39, 3) := by decide +kernel
theorem d_Pl_setPoint_6 : decode (am_Mof y_Pl_setPoint).1 6 = .ok (.ifCond .eq 5, 3) := by decide +kernel
theorem d_Pl_setPoint_9 : decode (am_Mof y_Pl_setPoint).1 9 = .ok (.iconst 0, 1) := by decide +kernel
theorem d_Pl_setPoint_10 : decode (am_Mof y_Pl_setPoint).1 10 = .ok (.ireturn, 1) := by decide +kernel
theorem d_Pl_setPoint_11 : decode (am_Mof y_Pl_setPoint).1 11 = .ok (.aload_n 0, 1) := by decide +kernel
theorem d_Pl_setPoint_12 : decode (am_Mof y_Pl_setPoint).1 12 = .ok (.getfield 18, 3) := by decide +kernel
theorem d_Pl_setPoint_15 : decode (am_Mof y_Pl_setPoint).1 15 = .ok (.iload_n 1, 1) := by decide +kernel
theorem d_Pl_setPoint_16 : decode (am_Mof y_Pl_setPoint).1 16 = .ok (.iload_n 2, 1) := by decide +kernel
theorem d_Pl_setPoint_17 : decode (am_Mof y_Pl_setPoint).1 17 = .ok (.invokestatic 43, 3) := by decide +kernel
theorem d_Pl_setPoint_20 : decode (am_Mof y_Pl_setPoint).1 20 = .ok (.iconst 1, 1) := by decide +kernel
theorem d_Pl_setPoint_21 : decode (am_Mof y_Pl_setPoint).1 21 = .ok (.bastore, 1) := by decide +kernel
theorem d_Pl_setPoint_22 : decode (am_Mof y_Pl_setPoint).1 22 = .ok (.iconst 1, 1) := by decide +kernel
theorem d_Pl_setPoint_23 : decode (am_Mof y_Pl_setPoint).1 23 = .ok (.ireturn, 1) := by decide +kernel
theorem d_Pl_isPoint_0 : decode (am_Mof y_Pl_isPoint).1 0 = .ok (.aload_n 0, 1) := by decide +kernel
theorem d_Pl_isPoint_1 : decode (am_Mof y_Pl_isPoint).1 1 = .ok (.getfield 18, 3) := by decide +kernel
theorem d_Pl_isPoint_4 : decode (am_Mof y_Pl_isPoint).1 4 = .ok (.iload_n 1, 1) := by decide +kernel
theorem d_Pl_isPoint_5 : decode (am_Mof y_Pl_isPoint).1 5 = .ok (.iload_n 2, 1) := by decide +kernel
theorem d_Pl_isPoint_6 : decode (am_Mof y_Pl_isPoint).1 6 = .ok (.invokestatic 43, 3) := by decide +kernel
theorem d_Pl_isPoint_9 : decode (am_Mof y_Pl_isPoint).1 9 = .ok (.baload, 1) := by decide +kernel
theorem d_Pl_isPoint_10 : decode (am_Mof y_Pl_isPoint).1 10 = .ok (.ireturn, 1) := by decide +kernel
theorem d_Pl_setLoss_0 : decode (am_Mof y_Pl_setLoss).1 0 = .ok (.aload_n 0, 1) := by decide +kernel
theorem d_Pl_setLoss_1 : decode (am_Mof y_Pl_setLoss).1 1 = .ok (.getfield 22, 3) := by decide +kernel
theorem d_Pl_setLoss_4 : decode (am_Mof y_Pl_setLoss).1 4 = .ok (.iload_n 1, 1) := by decide +kernel
theorem d_Pl_setLoss_5 : decode (am_Mof y_Pl_setLoss).1 5 = .ok (.iconst 1, 1) := by decide +kernel
theorem d_Pl_setLoss_6 : decode (am_Mof y_Pl_setLoss).1 6 = .ok (.bastore, 1) := by decide +kernel
theorem d_Pl_setLoss_7 : decode (am_Mof y_Pl_setLoss).1 7 = .ok (.aload_n 0, 1) := by decide +kernel
theorem d_Pl_setLoss_8 : decode (am_Mof y_Pl_setLoss).1 8 = .ok (.getfield 25, 3) := by decide +kernel
theorem d_Pl_setLoss_11 : decode (am_Mof y_Pl_setLoss).1 11 = .ok (.iload_n 1, 1) := by decide +kernel
theorem d_Pl_setLoss_12 : decode (am_Mof y_Pl_setLoss).1 12 = .ok (.iload_n 2, 1) := by decide +kernel
theorem d_Pl_setLoss_13 : decode (am_Mof y_Pl_setLoss).1 13 = .ok (.iastore, 1) := by decide +kernel
theorem d_Pl_setLoss_14 : decode (am_Mof y_Pl_setLoss).1 14 = .ok (.return_, 1) := by decide +kernel
theorem d_Pl_leastInRing_0 : decode (am_Mof y_Pl_leastInRing).1 0 = .ok (.iconst (-1), 1) := by decide +kernel
theorem d_Pl_leastInRing_1 : decode (am_Mof y_Pl_leastInRing).1 1 = .ok (.istore_n 1, 1) := by decide +kernel
theorem d_Pl_leastInRing_2 : decode (am_Mof y_Pl_leastInRing).1 2 = .ok (.iconst 0, 1) := by decide +kernel
theorem d_Pl_leastInRing_3 : decode (am_Mof y_Pl_leastInRing).1 3 = .ok (.istore_n 2, 1) := by decide +kernel
theorem d_Pl_leastInRing_4 : decode (am_Mof y_Pl_leastInRing).1 4 = .ok (.iload_n 2, 1) := by decide +kernel
theorem d_Pl_leastInRing_5 : decode (am_Mof y_Pl_leastInRing).1 5 = .ok (.iconst 4, 1) := by decide +kernel
theorem d_Pl_leastInRing_6 : decode (am_Mof y_Pl_leastInRing).1 6 = .ok (.if_icmp .ge 32, 3) := by decide +kernel
theorem d_Pl_leastInRing_9 : decode (am_Mof y_Pl_leastInRing).1 9 = .ok (.aload_n 0, 1) := by decide +kernel
theorem d_Pl_leastInRing_10 : decode (am_Mof y_Pl_leastInRing).1 10 = .ok (.iload_n 2, 1) := by decide +kernel
theorem d_Pl_leastInRing_11 : decode (am_Mof y_Pl_leastInRing).1 11 = .ok (.invokevirtual 46, 3) := by decide +kernel
theorem d_Pl_leastInRing_14 : decode (am_Mof y_Pl_leastInRing).1 14 = .ok (.istore_n 3, 1) := by decide +kernel
theorem d_Pl_leastInRing_15 : decode (am_Mof y_Pl_leastInRing).1 15 = .ok (.iload_n 3, 1) := by decide +kernel
theorem d_Pl_leastInRing_16 : decode (am_Mof y_Pl_leastInRing).1 16 = .ok (.iconst (-1), 1) := by decide +kernel
theorem d_Pl_leastInRing_17 : decode (am_Mof y_Pl_leastInRing).1 17 = .ok (.if_icmp .eq 15, 3) := by decide +kernel
theorem d_Pl_leastInRing_20 : decode (am_Mof y_Pl_leastInRing).1 20 = .ok (.iload_n 1, 1) := by decide +kernel
theorem d_Pl_leastInRing_21 : decode (am_Mof y_Pl_leastInRing).1 21 = .ok (.iconst (-1), 1) := by decide +kernel
theorem d_Pl_leastInRing_22 : decode (am_Mof y_Pl_leastInRing).1 22 = .ok (.if_icmp .eq 8, 3) := by decide +kernel
theorem d_Pl_leastInRing_25 : decode (am_Mof y_Pl_leastInRing).1 25 = .ok (.iload_n 3, 1) := by decide +kernel
theorem d_Pl_leastInRing_26 : decode (am_Mof y_Pl_leastInRing).1 26 = .ok (.iload_n 1, 1) := by decide +kernel
theorem d_Pl_leastInRing_27 : decode (am_Mof y_Pl_leastInRing).1 27 = .ok (.if_icmp .ge 5, 3) := by decide +kernel
theorem d_Pl_leastInRing_30 : decode (am_Mof y_Pl_leastInRing).1 30 = .ok (.iload_n 3, 1) := by decide +kernel
theorem d_Pl_leastInRing_31 : decode (am_Mof y_Pl_leastInRing).1 31 = .ok (.istore_n 1, 1) := by decide +kernel
theorem d_Pl_leastInRing_32 : decode (am_Mof y_Pl_leastInRing).1 32 = .ok (.iinc 2 1, 3) := by decide +kernel
theorem d_Pl_leastInRing_35 : decode (am_Mof y_Pl_leastInRing).1 35 = .ok (.goto (-31), 3) := by decide +kernel
theorem d_Pl_leastInRing_38 : decode (am_Mof y_Pl_leastInRing).1 38 = .ok (.iload_n 1, 1) := by decide +kernel
theorem d_Pl_leastInRing_39 : decode (am_Mof y_Pl_leastInRing).1 39 = .ok (.ireturn, 1) := by decide +kernel
theorem d_Pl_leastInRingOf_0 : decode (am_Mof y_Pl_leastInRingOf).1 0 = .ok (.aload_n 0, 1) := by decide +kernel
theorem d_Pl_leastInRingOf_1 : decode (am_Mof y_Pl_leastInRingOf).1 1 = .ok (.iload_n 1, 1) := by decide +kernel
theorem d_Pl_leastInRingOf_2 : decode (am_Mof y_Pl_leastInRingOf).1 2 = .ok (.invokevirtual 50, 3) := by decide +kernel
theorem d_Pl_leastInRingOf_5 : decode (am_Mof y_Pl_leastInRingOf).1 5 = .ok (.iconst 0, 1) := by decide +kernel
theorem d_Pl_leastInRingOf_6 : decode (am_Mof y_Pl_leastInRingOf).1 6 = .ok (.istore_n 2, 1) := by decide +kernel
theorem d_Pl_leastInRingOf_7 : decode (am_Mof y_Pl_leastInRingOf).1 7 = .ok (.iload_n 2, 1) := by decide +kernel
theorem d_Pl_leastInRingOf_8 : decode (am_Mof y_Pl_leastInRingOf).1 8 = .ok (.iconst 5, 1) := by decide +kernel
theorem d_Pl_leastInRingOf_9 : decode (am_Mof y_Pl_leastInRingOf).1 9 = .ok (.if_icmp .ge 20, 3) := by decide +kernel
theorem d_Pl_leastInRingOf_12 : decode (am_Mof y_Pl_leastInRingOf).1 12 = .ok (.aload_n 0, 1) := by decide +kernel
theorem d_Pl_leastInRingOf_13 : decode (am_Mof y_Pl_leastInRingOf).1 13 = .ok (.getfield 28, 3) := by decide +kernel
theorem d_Pl_leastInRingOf_16 : decode (am_Mof y_Pl_leastInRingOf).1 16 = .ok (.iload_n 2, 1) := by decide +kernel
theorem d_Pl_leastInRingOf_17 : decode (am_Mof y_Pl_leastInRingOf).1 17 = .ok (.baload, 1) := by decide +kernel
theorem d_Pl_leastInRingOf_18 : decode (am_Mof y_Pl_leastInRingOf).1 18 = .ok (.ifCond .ne 5, 3) := by decide +kernel
theorem d_Pl_leastInRingOf_21 : decode (am_Mof y_Pl_leastInRingOf).1 21 = .ok (.iload_n 2, 1) := by decide +kernel
theorem d_Pl_leastInRingOf_22 : decode (am_Mof y_Pl_leastInRingOf).1 22 = .ok (.ireturn, 1) := by decide +kernel
theorem d_Pl_leastInRingOf_23 : decode (am_Mof y_Pl_leastInRingOf).1 23 = .ok (.iinc 2 1, 3) := by decide +kernel
theorem d_Pl_leastInRingOf_26 : decode (am_Mof y_Pl_leastInRingOf).1 26 = .ok (.goto (-19), 3) := by decide +kernel
theorem d_Pl_leastInRingOf_29 : decode (am_Mof y_Pl_leastInRingOf).1 29 = .ok (.iconst (-1), 1) := by decide +kernel
theorem d_Pl_leastInRingOf_30 : decode (am_Mof y_Pl_leastInRingOf).1 30 = .ok (.ireturn, 1) := by decide +kernel
theorem d_Pl_findEnds_0 : decode (am_Mof y_Pl_findEnds).1 0 = .ok (.iconst 0, 1) := by decide +kernel
theorem d_Pl_findEnds_1 : decode (am_Mof y_Pl_findEnds).1 1 = .ok (.istore_n 2, 1) := by decide +kernel
theorem d_Pl_findEnds_2 : decode (am_Mof y_Pl_findEnds).1 2 = .ok (.iload_n 2, 1) := by decide +kernel
theorem d_Pl_findEnds_3 : decode (am_Mof y_Pl_findEnds).1 3 = .ok (.iconst 5, 1) := by decide +kernel
theorem d_Pl_findEnds_4 : decode (am_Mof y_Pl_findEnds).1 4 = .ok (.if_icmp .ge 40, 3) := by decide +kernel
theorem d_Pl_findEnds_7 : decode (am_Mof y_Pl_findEnds).1 7 = .ok (.aload_n 0, 1) := by decide +kernel
theorem d_Pl_findEnds_8 : decode (am_Mof y_Pl_findEnds).1 8 = .ok (.getfield 28, 3) := by decide +kernel
theorem d_Pl_findEnds_11 : decode (am_Mof y_Pl_findEnds).1 11 = .ok (.iload_n 2, 1) := by decide +kernel
theorem d_Pl_findEnds_12 : decode (am_Mof y_Pl_findEnds).1 12 = .ok (.aload_n 0, 1) := by decide +kernel
theorem d_Pl_findEnds_13 : decode (am_Mof y_Pl_findEnds).1 13 = .ok (.iload_n 2, 1) := by decide +kernel
theorem d_Pl_findEnds_14 : decode (am_Mof y_Pl_findEnds).1 14 = .ok (.iload_n 1, 1) := by decide +kernel
theorem d_Pl_findEnds_15 : decode (am_Mof y_Pl_findEnds).1 15 = .ok (.invokevirtual 54, 3) := by decide +kernel
theorem d_Pl_findEnds_18 : decode (am_Mof y_Pl_findEnds).1 18 = .ok (.ifCond .eq 14, 3) := by decide +kernel
theorem d_Pl_findEnds_21 : decode (am_Mof y_Pl_findEnds).1 21 = .ok (.aload_n 0, 1) := by decide +kernel
theorem d_Pl_findEnds_22 : decode (am_Mof y_Pl_findEnds).1 22 = .ok (.getfield 15, 3) := by decide +kernel
theorem d_Pl_findEnds_25 : decode (am_Mof y_Pl_findEnds).1 25 = .ok (.iload_n 2, 1) := by decide +kernel
theorem d_Pl_findEnds_26 : decode (am_Mof y_Pl_findEnds).1 26 = .ok (.iaload, 1) := by decide +kernel
theorem d_Pl_findEnds_27 : decode (am_Mof y_Pl_findEnds).1 27 = .ok (.bipush 10, 2) := by decide +kernel
theorem d_Pl_findEnds_29 : decode (am_Mof y_Pl_findEnds).1 29 = .ok (.if_icmp .ge 7, 3) := by decide +kernel
theorem d_Pl_findEnds_32 : decode (am_Mof y_Pl_findEnds).1 32 = .ok (.iconst 1, 1) := by decide +kernel
theorem d_Pl_findEnds_33 : decode (am_Mof y_Pl_findEnds).1 33 = .ok (.goto 4, 3) := by decide +kernel
theorem d_Pl_findEnds_36 : decode (am_Mof y_Pl_findEnds).1 36 = .ok (.iconst 0, 1) := by decide +kernel
theorem d_Pl_findEnds_37 : decode (am_Mof y_Pl_findEnds).1 37 = .ok (.bastore, 1) := by decide +kernel
theorem d_Pl_findEnds_38 : decode (am_Mof y_Pl_findEnds).1 38 = .ok (.iinc 2 1, 3) := by decide +kernel
theorem d_Pl_findEnds_41 : decode (am_Mof y_Pl_findEnds).1 41 = .ok (.goto (-39), 3) := by decide +kernel
theorem d_Pl_findEnds_44 : decode (am_Mof y_Pl_findEnds).1 44 = .ok (.iconst 1, 1) := by decide +kernel
theorem d_Pl_findEnds_45 : decode (am_Mof y_Pl_findEnds).1 45 = .ok (.istore_n 2, 1) := by decide +kernel
theorem d_Pl_findEnds_46 : decode (am_Mof y_Pl_findEnds).1 46 = .ok (.iload_n 2, 1) := by decide +kernel
theorem d_Pl_findEnds_47 : decode (am_Mof y_Pl_findEnds).1 47 = .ok (.iconst 5, 1) := by decide +kernel
theorem d_Pl_findEnds_48 : decode (am_Mof y_Pl_findEnds).1 48 = .ok (.if_icmp .ge 50, 3) := by decide +kernel
theorem d_Pl_findEnds_51 : decode (am_Mof y_Pl_findEnds).1 51 = .ok (.iconst 0, 1) := by decide +kernel
theorem d_Pl_findEnds_52 : decode (am_Mof y_Pl_findEnds).1 52 = .ok (.istore_n 3, 1) := by decide +kernel
theorem d_Pl_findEnds_53 : decode (am_Mof y_Pl_findEnds).1 53 = .ok (.iload_n 3, 1) := by decide +kernel
theorem d_Pl_findEnds_54 : decode (am_Mof y_Pl_findEnds).1 54 = .ok (.iconst 5, 1) := by decide +kernel
theorem d_Pl_findEnds_55 : decode (am_Mof y_Pl_findEnds).1 55 = .ok (.if_icmp .ge 37, 3) := by decide +kernel
theorem d_Pl_findEnds_58 : decode (am_Mof y_Pl_findEnds).1 58 = .ok (.aload_n 0, 1) := by decide +kernel
theorem d_Pl_findEnds_59 : decode (am_Mof y_Pl_findEnds).1 59 = .ok (.getfield 28, 3) := by decide +kernel
theorem d_Pl_findEnds_62 : decode (am_Mof y_Pl_findEnds).1 62 = .ok (.iload_n 3, 1) := by decide +kernel
theorem d_Pl_findEnds_63 : decode (am_Mof y_Pl_findEnds).1 63 = .ok (.aload_n 0, 1) := by decide +kernel
theorem d_Pl_findEnds_64 : decode (am_Mof y_Pl_findEnds).1 64 = .ok (.getfield 28, 3) := by decide +kernel
theorem d_Pl_findEnds_67 : decode (am_Mof y_Pl_findEnds).1 67 = .ok (.iload_n 3, 1) := by decide +kernel
theorem d_Pl_findEnds_68 : decode (am_Mof y_Pl_findEnds).1 68 = .ok (.baload, 1) := by decide +kernel
theorem d_Pl_findEnds_69 : decode (am_Mof y_Pl_findEnds).1 69 = .ok (.ifCond .ne 11, 3) := by decide +kernel
theorem d_Pl_findEnds_72 : decode (am_Mof y_Pl_findEnds).1 72 = .ok (.aload_n 0, 1) := by decide +kernel
theorem d_Pl_findEnds_73 : decode (am_Mof y_Pl_findEnds).1 73 = .ok (.iload_n 3, 1) := by decide +kernel
theorem d_Pl_findEnds_74 : decode (am_Mof y_Pl_findEnds).1 74 = .ok (.invokevirtual 57, 3) := by decide +kernel
theorem d_Pl_findEnds_77 : decode (am_Mof y_Pl_findEnds).1 77 = .ok (.ifCond .eq 7, 3) := by decide +kernel
theorem d_Pl_findEnds_80 : decode (am_Mof y_Pl_findEnds).1 80 = .ok (.iconst 1, 1) := by decide +kernel
theorem d_Pl_findEnds_81 : decode (am_Mof y_Pl_findEnds).1 81 = .ok (.goto 4, 3) := by decide +kernel
theorem d_Pl_findEnds_84 : decode (am_Mof y_Pl_findEnds).1 84 = .ok (.iconst 0, 1) := by decide +kernel
theorem d_Pl_findEnds_85 : decode (am_Mof y_Pl_findEnds).1 85 = .ok (.bastore, 1) := by decide +kernel
theorem d_Pl_findEnds_86 : decode (am_Mof y_Pl_findEnds).1 86 = .ok (.iinc 3 1, 3) := by decide +kernel
theorem d_Pl_findEnds_89 : decode (am_Mof y_Pl_findEnds).1 89 = .ok (.goto (-36), 3) := by decide +kernel
theorem d_Pl_findEnds_92 : decode (am_Mof y_Pl_findEnds).1 92 = .ok (.iinc 2 1, 3) := by decide +kernel
theorem d_Pl_findEnds_95 : decode (am_Mof y_Pl_findEnds).1 95 = .ok (.goto (-49), 3) := by decide +kernel
theorem d_Pl_findEnds_98 : decode (am_Mof y_Pl_findEnds).1 98 = .ok (.return_, 1) := by decide +kernel
theorem d_Pl_goesOn_0 : decode (am_Mof y_Pl_goesOn).1 0 = .ok (.aload_n 0, 1) := by decide +kernel
theorem d_Pl_goesOn_1 : decode (am_Mof y_Pl_goesOn).1 1 = .ok (.iload_n 1, 1) := by decide +kernel
theorem d_Pl_goesOn_2 : decode (am_Mof y_Pl_goesOn).1 2 = .ok (.iload_n 2, 1) := by decide +kernel
theorem d_Pl_goesOn_3 : decode (am_Mof y_Pl_goesOn).1 3 = .ok (.invokevirtual 39, 3) := by decide +kernel
theorem d_Pl_goesOn_6 : decode (am_Mof y_Pl_goesOn).1 6 = .ok (.ifCond .ne 16, 3) := by decide +kernel
theorem d_Pl_goesOn_9 : decode (am_Mof y_Pl_goesOn).1 9 = .ok (.aload_n 0, 1) := by decide +kernel
theorem d_Pl_goesOn_10 : decode (am_Mof y_Pl_goesOn).1 10 = .ok (.getfield 15, 3) := by decide +kernel
theorem d_Pl_goesOn_13 : decode (am_Mof y_Pl_goesOn).1 13 = .ok (.iload_n 1, 1) := by decide +kernel
theorem d_Pl_goesOn_14 : decode (am_Mof y_Pl_goesOn).1 14 = .ok (.iaload, 1) := by decide +kernel
theorem d_Pl_goesOn_15 : decode (am_Mof y_Pl_goesOn).1 15 = .ok (.ifCond .le 7, 3) := by decide +kernel
theorem d_Pl_goesOn_18 : decode (am_Mof y_Pl_goesOn).1 18 = .ok (.iconst 1, 1) := by decide +kernel
theorem d_Pl_goesOn_19 : decode (am_Mof y_Pl_goesOn).1 19 = .ok (.goto 4, 3) := by decide +kernel
theorem d_Pl_goesOn_22 : decode (am_Mof y_Pl_goesOn).1 22 = .ok (.iconst 0, 1) := by decide +kernel
theorem d_Pl_goesOn_23 : decode (am_Mof y_Pl_goesOn).1 23 = .ok (.ireturn, 1) := by decide +kernel
theorem d_Pl_goesToAnEnd_0 : decode (am_Mof y_Pl_goesToAnEnd).1 0 = .ok (.iconst 0, 1) := by decide +kernel
theorem d_Pl_goesToAnEnd_1 : decode (am_Mof y_Pl_goesToAnEnd).1 1 = .ok (.istore_n 2, 1) := by decide +kernel
theorem d_Pl_goesToAnEnd_2 : decode (am_Mof y_Pl_goesToAnEnd).1 2 = .ok (.iload_n 2, 1) := by decide +kernel
theorem d_Pl_goesToAnEnd_3 : decode (am_Mof y_Pl_goesToAnEnd).1 3 = .ok (.iconst 5, 1) := by decide +kernel
theorem d_Pl_goesToAnEnd_4 : decode (am_Mof y_Pl_goesToAnEnd).1 4 = .ok (.if_icmp .ge 29, 3) := by decide +kernel
theorem d_Pl_goesToAnEnd_7 : decode (am_Mof y_Pl_goesToAnEnd).1 7 = .ok (.aload_n 0, 1) := by decide +kernel
theorem d_Pl_goesToAnEnd_8 : decode (am_Mof y_Pl_goesToAnEnd).1 8 = .ok (.getfield 28, 3) := by decide +kernel
theorem d_Pl_goesToAnEnd_11 : decode (am_Mof y_Pl_goesToAnEnd).1 11 = .ok (.iload_n 2, 1) := by decide +kernel
theorem d_Pl_goesToAnEnd_12 : decode (am_Mof y_Pl_goesToAnEnd).1 12 = .ok (.baload, 1) := by decide +kernel
theorem d_Pl_goesToAnEnd_13 : decode (am_Mof y_Pl_goesToAnEnd).1 13 = .ok (.ifCond .eq 14, 3) := by decide +kernel
theorem d_Pl_goesToAnEnd_16 : decode (am_Mof y_Pl_goesToAnEnd).1 16 = .ok (.aload_n 0, 1) := by decide +kernel
theorem d_Pl_goesToAnEnd_17 : decode (am_Mof y_Pl_goesToAnEnd).1 17 = .ok (.iload_n 1, 1) := by decide +kernel
theorem d_Pl_goesToAnEnd_18 : decode (am_Mof y_Pl_goesToAnEnd).1 18 = .ok (.iload_n 2, 1) := by decide +kernel
theorem d_Pl_goesToAnEnd_19 : decode (am_Mof y_Pl_goesToAnEnd).1 19 = .ok (.invokevirtual 35, 3) := by decide +kernel
theorem d_Pl_goesToAnEnd_22 : decode (am_Mof y_Pl_goesToAnEnd).1 22 = .ok (.ifCond .le 5, 3) := by decide +kernel
theorem d_Pl_goesToAnEnd_25 : decode (am_Mof y_Pl_goesToAnEnd).1 25 = .ok (.iconst 1, 1) := by decide +kernel
theorem d_Pl_goesToAnEnd_26 : decode (am_Mof y_Pl_goesToAnEnd).1 26 = .ok (.ireturn, 1) := by decide +kernel
theorem d_Pl_goesToAnEnd_27 : decode (am_Mof y_Pl_goesToAnEnd).1 27 = .ok (.iinc 2 1, 3) := by decide +kernel
theorem d_Pl_goesToAnEnd_30 : decode (am_Mof y_Pl_goesToAnEnd).1 30 = .ok (.goto (-28), 3) := by decide +kernel
theorem d_Pl_goesToAnEnd_33 : decode (am_Mof y_Pl_goesToAnEnd).1 33 = .ok (.iconst 0, 1) := by decide +kernel
theorem d_Pl_goesToAnEnd_34 : decode (am_Mof y_Pl_goesToAnEnd).1 34 = .ok (.ireturn, 1) := by decide +kernel
theorem d_Pl_tenthsCounted_0 : decode (am_Mof y_Pl_tenthsCounted).1 0 = .ok (.aload_n 0, 1) := by decide +kernel
theorem d_Pl_tenthsCounted_1 : decode (am_Mof y_Pl_tenthsCounted).1 1 = .ok (.iload_n 1, 1) := by decide +kernel
theorem d_Pl_tenthsCounted_2 : decode (am_Mof y_Pl_tenthsCounted).1 2 = .ok (.iload_n 2, 1) := by decide +kernel
theorem d_Pl_tenthsCounted_3 : decode (am_Mof y_Pl_tenthsCounted).1 3 = .ok (.invokevirtual 39, 3) := by decide +kernel
theorem d_Pl_tenthsCounted_6 : decode (am_Mof y_Pl_tenthsCounted).1 6 = .ok (.ifCond .eq 6, 3) := by decide +kernel
theorem d_Pl_tenthsCounted_9 : decode (am_Mof y_Pl_tenthsCounted).1 9 = .ok (.bipush 10, 2) := by decide +kernel
theorem d_Pl_tenthsCounted_11 : decode (am_Mof y_Pl_tenthsCounted).1 11 = .ok (.ireturn, 1) := by decide +kernel
theorem d_Pl_tenthsCounted_12 : decode (am_Mof y_Pl_tenthsCounted).1 12 = .ok (.aload_n 0, 1) := by decide +kernel
theorem d_Pl_tenthsCounted_13 : decode (am_Mof y_Pl_tenthsCounted).1 13 = .ok (.getfield 22, 3) := by decide +kernel
theorem d_Pl_tenthsCounted_16 : decode (am_Mof y_Pl_tenthsCounted).1 16 = .ok (.iload_n 1, 1) := by decide +kernel
theorem d_Pl_tenthsCounted_17 : decode (am_Mof y_Pl_tenthsCounted).1 17 = .ok (.baload, 1) := by decide +kernel
theorem d_Pl_tenthsCounted_18 : decode (am_Mof y_Pl_tenthsCounted).1 18 = .ok (.ifCond .eq 15, 3) := by decide +kernel
theorem d_Pl_tenthsCounted_21 : decode (am_Mof y_Pl_tenthsCounted).1 21 = .ok (.bipush 10, 2) := by decide +kernel
theorem d_Pl_tenthsCounted_23 : decode (am_Mof y_Pl_tenthsCounted).1 23 = .ok (.aload_n 0, 1) := by decide +kernel
theorem d_Pl_tenthsCounted_24 : decode (am_Mof y_Pl_tenthsCounted).1 24 = .ok (.getfield 25, 3) := by decide +kernel
theorem d_Pl_tenthsCounted_27 : decode (am_Mof y_Pl_tenthsCounted).1 27 = .ok (.iload_n 1, 1) := by decide +kernel
theorem d_Pl_tenthsCounted_28 : decode (am_Mof y_Pl_tenthsCounted).1 28 = .ok (.iaload, 1) := by decide +kernel
theorem d_Pl_tenthsCounted_29 : decode (am_Mof y_Pl_tenthsCounted).1 29 = .ok (.isub, 1) := by decide +kernel
theorem d_Pl_tenthsCounted_30 : decode (am_Mof y_Pl_tenthsCounted).1 30 = .ok (.goto 4, 3) := by decide +kernel
theorem d_Pl_tenthsCounted_33 : decode (am_Mof y_Pl_tenthsCounted).1 33 = .ok (.iconst 0, 1) := by decide +kernel
theorem d_Pl_tenthsCounted_34 : decode (am_Mof y_Pl_tenthsCounted).1 34 = .ok (.ireturn, 1) := by decide +kernel
theorem d_Pl_isBare_0 : decode (am_Mof y_Pl_isBare).1 0 = .ok (.aload_n 0, 1) := by decide +kernel
theorem d_Pl_isBare_1 : decode (am_Mof y_Pl_isBare).1 1 = .ok (.iload_n 1, 1) := by decide +kernel
theorem d_Pl_isBare_2 : decode (am_Mof y_Pl_isBare).1 2 = .ok (.iload_n 2, 1) := by decide +kernel
theorem d_Pl_isBare_3 : decode (am_Mof y_Pl_isBare).1 3 = .ok (.invokevirtual 39, 3) := by decide +kernel
theorem d_Pl_isBare_6 : decode (am_Mof y_Pl_isBare).1 6 = .ok (.ifCond .ne 25, 3) := by decide +kernel
theorem d_Pl_isBare_9 : decode (am_Mof y_Pl_isBare).1 9 = .ok (.aload_n 0, 1) := by decide +kernel
theorem d_Pl_isBare_10 : decode (am_Mof y_Pl_isBare).1 10 = .ok (.getfield 15, 3) := by decide +kernel
theorem d_Pl_isBare_13 : decode (am_Mof y_Pl_isBare).1 13 = .ok (.iload_n 1, 1) := by decide +kernel
theorem d_Pl_isBare_14 : decode (am_Mof y_Pl_isBare).1 14 = .ok (.iaload, 1) := by decide +kernel
theorem d_Pl_isBare_15 : decode (am_Mof y_Pl_isBare).1 15 = .ok (.ifCond .ne 16, 3) := by decide +kernel
theorem d_Pl_isBare_18 : decode (am_Mof y_Pl_isBare).1 18 = .ok (.aload_n 0, 1) := by decide +kernel
theorem d_Pl_isBare_19 : decode (am_Mof y_Pl_isBare).1 19 = .ok (.getfield 22, 3) := by decide +kernel
theorem d_Pl_isBare_22 : decode (am_Mof y_Pl_isBare).1 22 = .ok (.iload_n 1, 1) := by decide +kernel
theorem d_Pl_isBare_23 : decode (am_Mof y_Pl_isBare).1 23 = .ok (.baload, 1) := by decide +kernel
theorem d_Pl_isBare_24 : decode (am_Mof y_Pl_isBare).1 24 = .ok (.ifCond .ne 7, 3) := by decide +kernel
theorem d_Pl_isBare_27 : decode (am_Mof y_Pl_isBare).1 27 = .ok (.iconst 1, 1) := by decide +kernel
theorem d_Pl_isBare_28 : decode (am_Mof y_Pl_isBare).1 28 = .ok (.goto 4, 3) := by decide +kernel
theorem d_Pl_isBare_31 : decode (am_Mof y_Pl_isBare).1 31 = .ok (.iconst 0, 1) := by decide +kernel
theorem d_Pl_isBare_32 : decode (am_Mof y_Pl_isBare).1 32 = .ok (.ireturn, 1) := by decide +kernel
theorem d_Pl_isPointWithAverage_0 : decode (am_Mof y_Pl_isPointWithAverage).1 0 = .ok (.aload_n 0, 1) := by decide +kernel
theorem d_Pl_isPointWithAverage_1 : decode (am_Mof y_Pl_isPointWithAverage).1 1 = .ok (.getfield 22, 3) := by decide +kernel
theorem d_Pl_isPointWithAverage_4 : decode (am_Mof y_Pl_isPointWithAverage).1 4 = .ok (.iload_n 1, 1) := by decide +kernel
theorem d_Pl_isPointWithAverage_5 : decode (am_Mof y_Pl_isPointWithAverage).1 5 = .ok (.baload, 1) := by decide +kernel
theorem d_Pl_isPointWithAverage_6 : decode (am_Mof y_Pl_isPointWithAverage).1 6 = .ok (.ifCond .eq 16, 3) := by decide +kernel
theorem d_Pl_isPointWithAverage_9 : decode (am_Mof y_Pl_isPointWithAverage).1 9 = .ok (.aload_n 0, 1) := by decide +kernel
theorem d_Pl_isPointWithAverage_10 : decode (am_Mof y_Pl_isPointWithAverage).1 10 = .ok (.iload_n 1, 1) := by decide +kernel
theorem d_Pl_isPointWithAverage_11 : decode (am_Mof y_Pl_isPointWithAverage).1 11 = .ok (.iload_n 2, 1) := by decide +kernel
theorem d_Pl_isPointWithAverage_12 : decode (am_Mof y_Pl_isPointWithAverage).1 12 = .ok (.invokevirtual 39, 3) := by decide +kernel
theorem d_Pl_isPointWithAverage_15 : decode (am_Mof y_Pl_isPointWithAverage).1 15 = .ok (.ifCond .eq 7, 3) := by decide +kernel
theorem d_Pl_isPointWithAverage_18 : decode (am_Mof y_Pl_isPointWithAverage).1 18 = .ok (.iconst 1, 1) := by decide +kernel
theorem d_Pl_isPointWithAverage_19 : decode (am_Mof y_Pl_isPointWithAverage).1 19 = .ok (.goto 4, 3) := by decide +kernel
theorem d_Pl_isPointWithAverage_22 : decode (am_Mof y_Pl_isPointWithAverage).1 22 = .ok (.iconst 0, 1) := by decide +kernel
theorem d_Pl_isPointWithAverage_23 : decode (am_Mof y_Pl_isPointWithAverage).1 23 = .ok (.ireturn, 1) := by decide +kernel
theorem d_So_init_0 : decode (am_Mof y_So_init).1 0 = .ok (.aload_n 0, 1) := by decide +kernel
theorem d_So_init_1 : decode (am_Mof y_So_init).1 1 = .ok (.invokespecial 3, 3) := by decide +kernel
theorem d_So_init_4 : decode (am_Mof y_So_init).1 4 = .ok (.aload_n 0, 1) := by decide +kernel
theorem d_So_init_5 : decode (am_Mof y_So_init).1 5 = .ok (.new 9, 3) := by decide +kernel
theorem d_So_init_8 : decode (am_Mof y_So_init).1 8 = .ok (.dup, 1) := by decide +kernel
theorem d_So_init_9 : decode (am_Mof y_So_init).1 9 = .ok (.invokespecial 11, 3) := by decide +kernel
theorem d_So_init_12 : decode (am_Mof y_So_init).1 12 = .ok (.putfield 12, 3) := by decide +kernel
theorem d_So_init_15 : decode (am_Mof y_So_init).1 15 = .ok (.aload_n 0, 1) := by decide +kernel
theorem d_So_init_16 : decode (am_Mof y_So_init).1 16 = .ok (.iconst 4, 1) := by decide +kernel
theorem d_So_init_17 : decode (am_Mof y_So_init).1 17 = .ok (.newarray .long, 2) := by decide +kernel
theorem d_So_init_19 : decode (am_Mof y_So_init).1 19 = .ok (.putfield 18, 3) := by decide +kernel
theorem d_So_init_22 : decode (am_Mof y_So_init).1 22 = .ok (.aload_n 0, 1) := by decide +kernel
theorem d_So_init_23 : decode (am_Mof y_So_init).1 23 = .ok (.bipush 20, 2) := by decide +kernel
theorem d_So_init_25 : decode (am_Mof y_So_init).1 25 = .ok (.newarray .long, 2) := by decide +kernel
theorem d_So_init_27 : decode (am_Mof y_So_init).1 27 = .ok (.putfield 22, 3) := by decide +kernel
theorem d_So_init_30 : decode (am_Mof y_So_init).1 30 = .ok (.aload_n 0, 1) := by decide +kernel
theorem d_So_init_31 : decode (am_Mof y_So_init).1 31 = .ok (.sipush 200, 3) := by decide +kernel
theorem d_So_init_34 : decode (am_Mof y_So_init).1 34 = .ok (.newarray .long, 2) := by decide +kernel
theorem d_So_init_36 : decode (am_Mof y_So_init).1 36 = .ok (.putfield 25, 3) := by decide +kernel
theorem d_So_init_39 : decode (am_Mof y_So_init).1 39 = .ok (.aload_n 0, 1) := by decide +kernel
theorem d_So_init_40 : decode (am_Mof y_So_init).1 40 = .ok (.bipush 40, 2) := by decide +kernel
theorem d_So_init_42 : decode (am_Mof y_So_init).1 42 = .ok (.newarray .long, 2) := by decide +kernel
theorem d_So_init_44 : decode (am_Mof y_So_init).1 44 = .ok (.putfield 28, 3) := by decide +kernel
theorem d_So_init_47 : decode (am_Mof y_So_init).1 47 = .ok (.aload_n 0, 1) := by decide +kernel
theorem d_So_init_48 : decode (am_Mof y_So_init).1 48 = .ok (.sipush 160, 3) := by decide +kernel
theorem d_So_init_51 : decode (am_Mof y_So_init).1 51 = .ok (.newarray .long, 2) := by decide +kernel
theorem d_So_init_53 : decode (am_Mof y_So_init).1 53 = .ok (.putfield 31, 3) := by decide +kernel
theorem d_So_init_56 : decode (am_Mof y_So_init).1 56 = .ok (.aload_n 0, 1) := by decide +kernel
theorem d_So_init_57 : decode (am_Mof y_So_init).1 57 = .ok (.sipush 160, 3) := by decide +kernel
theorem d_So_init_60 : decode (am_Mof y_So_init).1 60 = .ok (.newarray .long, 2) := by decide +kernel
theorem d_So_init_62 : decode (am_Mof y_So_init).1 62 = .ok (.putfield 34, 3) := by decide +kernel
theorem d_So_init_65 : decode (am_Mof y_So_init).1 65 = .ok (.aload_n 0, 1) := by decide +kernel
theorem d_So_init_66 : decode (am_Mof y_So_init).1 66 = .ok (.iconst 5, 1) := by decide +kernel
theorem d_So_init_67 : decode (am_Mof y_So_init).1 67 = .ok (.newarray .boolean, 2) := by decide +kernel
theorem d_So_init_69 : decode (am_Mof y_So_init).1 69 = .ok (.putfield 37, 3) := by decide +kernel
theorem d_So_init_72 : decode (am_Mof y_So_init).1 72 = .ok (.aload_n 0, 1) := by decide +kernel
theorem d_So_init_73 : decode (am_Mof y_So_init).1 73 = .ok (.iconst 5, 1) := by decide +kernel
theorem d_So_init_74 : decode (am_Mof y_So_init).1 74 = .ok (.newarray .boolean, 2) := by decide +kernel
theorem d_So_init_76 : decode (am_Mof y_So_init).1 76 = .ok (.putfield 41, 3) := by decide +kernel
theorem d_So_init_79 : decode (am_Mof y_So_init).1 79 = .ok (.aload_n 0, 1) := by decide +kernel
theorem d_So_init_80 : decode (am_Mof y_So_init).1 80 = .ok (.iconst 0, 1) := by decide +kernel
theorem d_So_init_81 : decode (am_Mof y_So_init).1 81 = .ok (.putfield 44, 3) := by decide +kernel
theorem d_So_init_84 : decode (am_Mof y_So_init).1 84 = .ok (.return_, 1) := by decide +kernel
theorem d_So_keep_0 : decode (am_Mof y_So_keep).1 0 = .ok (.aload_n 0, 1) := by decide +kernel
theorem d_So_keep_1 : decode (am_Mof y_So_keep).1 1 = .ok (.iconst 1, 1) := by decide +kernel
theorem d_So_keep_2 : decode (am_Mof y_So_keep).1 2 = .ok (.putfield 44, 3) := by decide +kernel
theorem d_So_keep_5 : decode (am_Mof y_So_keep).1 5 = .ok (.iconst 0, 1) := by decide +kernel
theorem d_So_keep_6 : decode (am_Mof y_So_keep).1 6 = .ok (.istore 4, 2) := by decide +kernel
theorem d_So_keep_8 : decode (am_Mof y_So_keep).1 8 = .ok (.iload 4, 2) := by decide +kernel
theorem d_So_keep_10 : decode (am_Mof y_So_keep).1 10 = .ok (.iconst 4, 1) := by decide +kernel
theorem d_So_keep_11 : decode (am_Mof y_So_keep).1 11 = .ok (.if_icmp .ge 16, 3) := by decide +kernel
theorem d_So_keep_14 : decode (am_Mof y_So_keep).1 14 = .ok (.aload_n 0, 1) := by decide +kernel
theorem d_So_keep_15 : decode (am_Mof y_So_keep).1 15 = .ok (.aload_n 1, 1) := by decide +kernel
theorem d_So_keep_16 : decode (am_Mof y_So_keep).1 16 = .ok (.iload 4, 2) := by decide +kernel
theorem d_So_keep_18 : decode (am_Mof y_So_keep).1 18 = .ok (.invokevirtual 85, 3) := by decide +kernel
theorem d_So_keep_21 : decode (am_Mof y_So_keep).1 21 = .ok (.iinc 4 1, 3) := by decide +kernel
theorem d_So_keep_24 : decode (am_Mof y_So_keep).1 24 = .ok (.goto (-16), 3) := by decide +kernel
theorem d_So_keep_27 : decode (am_Mof y_So_keep).1 27 = .ok (.aload_n 0, 1) := by decide +kernel
theorem d_So_keep_28 : decode (am_Mof y_So_keep).1 28 = .ok (.invokevirtual 89, 3) := by decide +kernel
theorem d_So_keep_31 : decode (am_Mof y_So_keep).1 31 = .ok (.aload_n 0, 1) := by decide +kernel
theorem d_So_keep_32 : decode (am_Mof y_So_keep).1 32 = .ok (.aload_n 3, 1) := by decide +kernel
theorem d_So_keep_33 : decode (am_Mof y_So_keep).1 33 = .ok (.invokevirtual 92, 3) := by decide +kernel
theorem d_So_keep_36 : decode (am_Mof y_So_keep).1 36 = .ok (.iconst 0, 1) := by decide +kernel
theorem d_So_keep_37 : decode (am_Mof y_So_keep).1 37 = .ok (.istore 4, 2) := by decide +kernel
theorem d_So_keep_39 : decode (am_Mof y_So_keep).1 39 = .ok (.iload 4, 2) := by decide +kernel
theorem d_So_keep_41 : decode (am_Mof y_So_keep).1 41 = .ok (.aload_n 2, 1) := by decide +kernel
theorem d_So_keep_42 : decode (am_Mof y_So_keep).1 42 = .ok (.invokevirtual 96, 3) := by decide +kernel
theorem d_So_keep_45 : decode (am_Mof y_So_keep).1 45 = .ok (.if_icmp .ge 16, 3) := by decide +kernel
theorem d_So_keep_48 : decode (am_Mof y_So_keep).1 48 = .ok (.aload_n 0, 1) := by decide +kernel
theorem d_So_keep_49 : decode (am_Mof y_So_keep).1 49 = .ok (.aload_n 2, 1) := by decide +kernel
theorem d_So_keep_50 : decode (am_Mof y_So_keep).1 50 = .ok (.iload 4, 2) := by decide +kernel
theorem d_So_keep_52 : decode (am_Mof y_So_keep).1 52 = .ok (.invokevirtual 102, 3) := by decide +kernel
theorem d_So_keep_55 : decode (am_Mof y_So_keep).1 55 = .ok (.iinc 4 1, 3) := by decide +kernel
theorem d_So_keep_58 : decode (am_Mof y_So_keep).1 58 = .ok (.goto (-19), 3) := by decide +kernel
theorem d_So_keep_61 : decode (am_Mof y_So_keep).1 61 = .ok (.aload_n 0, 1) := by decide +kernel
theorem d_So_keep_62 : decode (am_Mof y_So_keep).1 62 = .ok (.invokevirtual 106, 3) := by decide +kernel
theorem d_So_keep_65 : decode (am_Mof y_So_keep).1 65 = .ok (.iconst 0, 1) := by decide +kernel
theorem d_So_keep_66 : decode (am_Mof y_So_keep).1 66 = .ok (.istore 4, 2) := by decide +kernel
theorem d_So_keep_68 : decode (am_Mof y_So_keep).1 68 = .ok (.iload 4, 2) := by decide +kernel
theorem d_So_keep_70 : decode (am_Mof y_So_keep).1 70 = .ok (.iconst 4, 1) := by decide +kernel
theorem d_So_keep_71 : decode (am_Mof y_So_keep).1 71 = .ok (.if_icmp .ge 17, 3) := by decide +kernel
theorem d_So_keep_74 : decode (am_Mof y_So_keep).1 74 = .ok (.aload_n 0, 1) := by decide +kernel
theorem d_So_keep_75 : decode (am_Mof y_So_keep).1 75 = .ok (.aload_n 1, 1) := by decide +kernel
theorem d_So_keep_76 : decode (am_Mof y_So_keep).1 76 = .ok (.aload_n 2, 1) := by decide +kernel
theorem d_So_keep_77 : decode (am_Mof y_So_keep).1 77 = .ok (.iload 4, 2) := by decide +kernel
theorem d_So_keep_79 : decode (am_Mof y_So_keep).1 79 = .ok (.invokevirtual 109, 3) := by decide +kernel
theorem d_So_keep_82 : decode (am_Mof y_So_keep).1 82 = .ok (.iinc 4 1, 3) := by decide +kernel
theorem d_So_keep_85 : decode (am_Mof y_So_keep).1 85 = .ok (.goto (-17), 3) := by decide +kernel
theorem d_So_keep_88 : decode (am_Mof y_So_keep).1 88 = .ok (.return_, 1) := by decide +kernel
theorem d_So_keepWorths_0 : decode (am_Mof y_So_keepWorths).1 0 = .ok (.aload_n 0, 1) := by decide +kernel
theorem d_So_keepWorths_1 : decode (am_Mof y_So_keepWorths).1 1 = .ok (.getfield 18, 3) := by decide +kernel
theorem d_So_keepWorths_4 : decode (am_Mof y_So_keepWorths).1 4 = .ok (.iload_n 2, 1) := by decide +kernel
theorem d_So_keepWorths_5 : decode (am_Mof y_So_keepWorths).1 5 = .ok (.aload_n 0, 1) := by decide +kernel
theorem d_So_keepWorths_6 : decode (am_Mof y_So_keepWorths).1 6 = .ok (.getfield 12, 3) := by decide +kernel
theorem d_So_keepWorths_9 : decode (am_Mof y_So_keepWorths).1 9 = .ok (.aload_n 1, 1) := by decide +kernel
theorem d_So_keepWorths_10 : decode (am_Mof y_So_keepWorths).1 10 = .ok (.iload_n 2, 1) := by decide +kernel
theorem d_So_keepWorths_11 : decode (am_Mof y_So_keepWorths).1 11 = .ok (.invokevirtual 113, 3) := by decide +kernel
theorem d_So_keepWorths_14 : decode (am_Mof y_So_keepWorths).1 14 = .ok (.lastore, 1) := by decide +kernel
theorem d_So_keepWorths_15 : decode (am_Mof y_So_keepWorths).1 15 = .ok (.iconst 0, 1) := by decide +kernel
theorem d_So_keepWorths_16 : decode (am_Mof y_So_keepWorths).1 16 = .ok (.istore_n 3, 1) := by decide +kernel
theorem d_So_keepWorths_17 : decode (am_Mof y_So_keepWorths).1 17 = .ok (.iload_n 3, 1) := by decide +kernel
theorem d_So_keepWorths_18 : decode (am_Mof y_So_keepWorths).1 18 = .ok (.iconst 5, 1) := by decide +kernel
theorem d_So_keepWorths_19 : decode (am_Mof y_So_keepWorths).1 19 = .ok (.if_icmp .ge 27, 3) := by decide +kernel
theorem d_So_keepWorths_22 : decode (am_Mof y_So_keepWorths).1 22 = .ok (.aload_n 0, 1) := by decide +kernel
theorem d_So_keepWorths_23 : decode (am_Mof y_So_keepWorths).1 23 = .ok (.getfield 22, 3) := by decide +kernel
theorem d_So_keepWorths_26 : decode (am_Mof y_So_keepWorths).1 26 = .ok (.iload_n 3, 1) := by decide +kernel
theorem d_So_keepWorths_27 : decode (am_Mof y_So_keepWorths).1 27 = .ok (.iload_n 2, 1) := by decide +kernel
theorem d_So_keepWorths_28 : decode (am_Mof y_So_keepWorths).1 28 = .ok (.invokestatic 64, 3) := by decide +kernel
theorem d_So_keepWorths_31 : decode (am_Mof y_So_keepWorths).1 31 = .ok (.aload_n 0, 1) := by decide +kernel
theorem d_So_keepWorths_32 : decode (am_Mof y_So_keepWorths).1 32 = .ok (.getfield 12, 3) := by decide +kernel
theorem d_So_keepWorths_35 : decode (am_Mof y_So_keepWorths).1 35 = .ok (.iload_n 3, 1) := by decide +kernel
theorem d_So_keepWorths_36 : decode (am_Mof y_So_keepWorths).1 36 = .ok (.invokevirtual 117, 3) := by decide +kernel
theorem d_So_keepWorths_39 : decode (am_Mof y_So_keepWorths).1 39 = .ok (.lastore, 1) := by decide +kernel
theorem d_So_keepWorths_40 : decode (am_Mof y_So_keepWorths).1 40 = .ok (.iinc 3 1, 3) := by decide +kernel
theorem d_So_keepWorths_43 : decode (am_Mof y_So_keepWorths).1 43 = .ok (.goto (-26), 3) := by decide +kernel
theorem d_So_keepWorths_46 : decode (am_Mof y_So_keepWorths).1 46 = .ok (.return_, 1) := by decide +kernel
theorem d_So_clearSums_0 : decode (am_Mof y_So_clearSums).1 0 = .ok (.aload_n 0, 1) := by decide +kernel
theorem d_So_clearSums_1 : decode (am_Mof y_So_clearSums).1 1 = .ok (.getfield 25, 3) := by decide +kernel
theorem d_So_clearSums_4 : decode (am_Mof y_So_clearSums).1 4 = .ok (.invokestatic 120, 3) := by decide +kernel
theorem d_So_clearSums_7 : decode (am_Mof y_So_clearSums).1 7 = .ok (.aload_n 0, 1) := by decide +kernel
theorem d_So_clearSums_8 : decode (am_Mof y_So_clearSums).1 8 = .ok (.getfield 28, 3) := by decide +kernel
theorem d_So_clearSums_11 : decode (am_Mof y_So_clearSums).1 11 = .ok (.invokestatic 120, 3) := by decide +kernel
theorem d_So_clearSums_14 : decode (am_Mof y_So_clearSums).1 14 = .ok (.aload_n 0, 1) := by decide +kernel
theorem d_So_clearSums_15 : decode (am_Mof y_So_clearSums).1 15 = .ok (.getfield 31, 3) := by decide +kernel
theorem d_So_clearSums_18 : decode (am_Mof y_So_clearSums).1 18 = .ok (.invokestatic 120, 3) := by decide +kernel
theorem d_So_clearSums_21 : decode (am_Mof y_So_clearSums).1 21 = .ok (.iconst 0, 1) := by decide +kernel
theorem d_So_clearSums_22 : decode (am_Mof y_So_clearSums).1 22 = .ok (.istore_n 1, 1) := by decide +kernel
theorem d_So_clearSums_23 : decode (am_Mof y_So_clearSums).1 23 = .ok (.iload_n 1, 1) := by decide +kernel
theorem d_So_clearSums_24 : decode (am_Mof y_So_clearSums).1 24 = .ok (.iconst 5, 1) := by decide +kernel
theorem d_So_clearSums_25 : decode (am_Mof y_So_clearSums).1 25 = .ok (.if_icmp .ge 16, 3) := by decide +kernel
theorem d_So_clearSums_28 : decode (am_Mof y_So_clearSums).1 28 = .ok (.aload_n 0, 1) := by decide +kernel
theorem d_So_clearSums_29 : decode (am_Mof y_So_clearSums).1 29 = .ok (.getfield 41, 3) := by decide +kernel
theorem d_So_clearSums_32 : decode (am_Mof y_So_clearSums).1 32 = .ok (.iload_n 1, 1) := by decide +kernel
theorem d_So_clearSums_33 : decode (am_Mof y_So_clearSums).1 33 = .ok (.iconst 0, 1) := by decide +kernel
theorem d_So_clearSums_34 : decode (am_Mof y_So_clearSums).1 34 = .ok (.bastore, 1) := by decide +kernel
theorem d_So_clearSums_35 : decode (am_Mof y_So_clearSums).1 35 = .ok (.iinc 1 1, 3) := by decide +kernel
theorem d_So_clearSums_38 : decode (am_Mof y_So_clearSums).1 38 = .ok (.goto (-15), 3) := by decide +kernel
theorem d_So_clearSums_41 : decode (am_Mof y_So_clearSums).1 41 = .ok (.return_, 1) := by decide +kernel
theorem d_So_clear_0 : decode (am_Mof y_So_clear).1 0 = .ok (.iconst 0, 1) := by decide +kernel
theorem d_So_clear_1 : decode (am_Mof y_So_clear).1 1 = .ok (.istore_n 1, 1) := by decide +kernel
theorem d_So_clear_2 : decode (am_Mof y_So_clear).1 2 = .ok (.iload_n 1, 1) := by decide +kernel
theorem d_So_clear_3 : decode (am_Mof y_So_clear).1 3 = .ok (.aload_n 0, 1) := by decide +kernel
theorem d_So_clear_4 : decode (am_Mof y_So_clear).1 4 = .ok (.arraylength, 1) := by decide +kernel
theorem d_So_clear_5 : decode (am_Mof y_So_clear).1 5 = .ok (.if_icmp .ge 13, 3) := by decide +kernel
theorem d_So_clear_8 : decode (am_Mof y_So_clear).1 8 = .ok (.aload_n 0, 1) := by decide +kernel
theorem d_So_clear_9 : decode (am_Mof y_So_clear).1 9 = .ok (.iload_n 1, 1) := by decide +kernel
theorem d_So_clear_10 : decode (am_Mof y_So_clear).1 10 = .ok (.lconst 0, 1) := by decide +kernel
theorem d_So_clear_11 : decode (am_Mof y_So_clear).1 11 = .ok (.lastore, 1) := by decide +kernel
theorem d_So_clear_12 : decode (am_Mof y_So_clear).1 12 = .ok (.iinc 1 1, 3) := by decide +kernel
theorem d_So_clear_15 : decode (am_Mof y_So_clear).1 15 = .ok (.goto (-13), 3) := by decide +kernel
theorem d_So_clear_18 : decode (am_Mof y_So_clear).1 18 = .ok (.return_, 1) := by decide +kernel
theorem d_So_addMetals_0 : decode (am_Mof y_So_addMetals).1 0 = .ok (.iconst 0, 1) := by decide +kernel
theorem d_So_addMetals_1 : decode (am_Mof y_So_addMetals).1 1 = .ok (.istore_n 2, 1) := by decide +kernel
theorem d_So_addMetals_2 : decode (am_Mof y_So_addMetals).1 2 = .ok (.iload_n 2, 1) := by decide +kernel
theorem d_So_addMetals_3 : decode (am_Mof y_So_addMetals).1 3 = .ok (.bipush 10, 2) := by decide +kernel
theorem d_So_addMetals_5 : decode (am_Mof y_So_addMetals).1 5 = .ok (.if_icmp .ge 55, 3) := by decide +kernel
theorem d_So_addMetals_8 : decode (am_Mof y_So_addMetals).1 8 = .ok (.iload_n 2, 1) := by decide +kernel
theorem d_So_addMetals_9 : decode (am_Mof y_So_addMetals).1 9 = .ok (.aload_n 1, 1) := by decide +kernel
theorem d_So_addMetals_10 : decode (am_Mof y_So_addMetals).1 10 = .ok (.arraylength, 1) := by decide +kernel
theorem d_So_addMetals_11 : decode (am_Mof y_So_addMetals).1 11 = .ok (.if_icmp .ge 49, 3) := by decide +kernel
theorem d_So_addMetals_14 : decode (am_Mof y_So_addMetals).1 14 = .ok (.aload_n 1, 1) := by decide +kernel
theorem d_So_addMetals_15 : decode (am_Mof y_So_addMetals).1 15 = .ok (.iload_n 2, 1) := by decide +kernel
theorem d_So_addMetals_16 : decode (am_Mof y_So_addMetals).1 16 = .ok (.laload, 1) := by decide +kernel
theorem d_So_addMetals_17 : decode (am_Mof y_So_addMetals).1 17 = .ok (.lstore_n 3, 1) := by decide +kernel
theorem d_So_addMetals_18 : decode (am_Mof y_So_addMetals).1 18 = .ok (.aload_n 0, 1) := by decide +kernel
theorem d_So_addMetals_19 : decode (am_Mof y_So_addMetals).1 19 = .ok (.getfield 28, 3) := by decide +kernel
theorem d_So_addMetals_22 : decode (am_Mof y_So_addMetals).1 22 = .ok (.iconst 3, 1) := by decide +kernel
theorem d_So_addMetals_23 : decode (am_Mof y_So_addMetals).1 23 = .ok (.iload_n 2, 1) := by decide +kernel
theorem d_So_addMetals_24 : decode (am_Mof y_So_addMetals).1 24 = .ok (.invokestatic 68, 3) := by decide +kernel
theorem d_So_addMetals_27 : decode (am_Mof y_So_addMetals).1 27 = .ok (.dup2, 1) := by decide +kernel
theorem d_So_addMetals_28 : decode (am_Mof y_So_addMetals).1 28 = .ok (.laload, 1) := by decide +kernel
theorem d_So_addMetals_29 : decode (am_Mof y_So_addMetals).1 29 = .ok (.lload_n 3, 1) := by decide +kernel
theorem d_So_addMetals_30 : decode (am_Mof y_So_addMetals).1 30 = .ok (.ladd, 1) := by decide +kernel
theorem d_So_addMetals_31 : decode (am_Mof y_So_addMetals).1 31 = .ok (.lastore, 1) := by decide +kernel
theorem d_So_addMetals_32 : decode (am_Mof y_So_addMetals).1 32 = .ok (.aload_n 0, 1) := by decide +kernel
theorem d_So_addMetals_33 : decode (am_Mof y_So_addMetals).1 33 = .ok (.getfield 31, 3) := by decide +kernel
theorem d_So_addMetals_36 : decode (am_Mof y_So_addMetals).1 36 = .ok (.iconst 0, 1) := by decide +kernel
theorem d_So_addMetals_37 : decode (am_Mof y_So_addMetals).1 37 = .ok (.iconst 3, 1) := by decide +kernel
theorem d_So_addMetals_38 : decode (am_Mof y_So_addMetals).1 38 = .ok (.iload_n 2, 1) := by decide +kernel
theorem d_So_addMetals_39 : decode (am_Mof y_So_addMetals).1 39 = .ok (.invokestatic 48, 3) := by decide +kernel
theorem d_So_addMetals_42 : decode (am_Mof y_So_addMetals).1 42 = .ok (.dup2, 1) := by decide +kernel
theorem d_So_addMetals_43 : decode (am_Mof y_So_addMetals).1 43 = .ok (.laload, 1) := by decide +kernel
theorem d_So_addMetals_44 : decode (am_Mof y_So_addMetals).1 44 = .ok (.lload_n 3, 1) := by decide +kernel
theorem d_So_addMetals_45 : decode (am_Mof y_So_addMetals).1 45 = .ok (.aload_n 0, 1) := by decide +kernel
theorem d_So_addMetals_46 : decode (am_Mof y_So_addMetals).1 46 = .ok (.getfield 18, 3) := by decide +kernel
theorem d_So_addMetals_49 : decode (am_Mof y_So_addMetals).1 49 = .ok (.iconst 3, 1) := by decide +kernel
theorem d_So_addMetals_50 : decode (am_Mof y_So_addMetals).1 50 = .ok (.laload, 1) := by decide +kernel
theorem d_So_addMetals_51 : decode (am_Mof y_So_addMetals).1 51 = .ok (.lmul, 1) := by decide +kernel
theorem d_So_addMetals_52 : decode (am_Mof y_So_addMetals).1 52 = .ok (.ladd, 1) := by decide +kernel
theorem d_So_addMetals_53 : decode (am_Mof y_So_addMetals).1 53 = .ok (.lastore, 1) := by decide +kernel
theorem d_So_addMetals_54 : decode (am_Mof y_So_addMetals).1 54 = .ok (.iinc 2 1, 3) := by decide +kernel
theorem d_So_addMetals_57 : decode (am_Mof y_So_addMetals).1 57 = .ok (.goto (-55), 3) := by decide +kernel
theorem d_So_addMetals_60 : decode (am_Mof y_So_addMetals).1 60 = .ok (.return_, 1) := by decide +kernel
theorem d_So_place_0 : decode (am_Mof y_So_place).1 0 = .ok (.iload_n 0, 1) := by decide +kernel
theorem d_So_place_1 : decode (am_Mof y_So_place).1 1 = .ok (.iconst 4, 1) := by decide +kernel
theorem d_So_place_2 : decode (am_Mof y_So_place).1 2 = .ok (.imul, 1) := by decide +kernel
theorem d_So_place_3 : decode (am_Mof y_So_place).1 3 = .ok (.iload_n 1, 1) := by decide +kernel
theorem d_So_place_4 : decode (am_Mof y_So_place).1 4 = .ok (.iadd, 1) := by decide +kernel
theorem d_So_place_5 : decode (am_Mof y_So_place).1 5 = .ok (.bipush 10, 2) := by decide +kernel
theorem d_So_place_7 : decode (am_Mof y_So_place).1 7 = .ok (.imul, 1) := by decide +kernel
theorem d_So_place_8 : decode (am_Mof y_So_place).1 8 = .ok (.iload_n 2, 1) := by decide +kernel
theorem d_So_place_9 : decode (am_Mof y_So_place).1 9 = .ok (.iadd, 1) := by decide +kernel
theorem d_So_place_10 : decode (am_Mof y_So_place).1 10 = .ok (.ireturn, 1) := by decide +kernel
theorem d_So_addFeed_0 : decode (am_Mof y_So_addFeed).1 0 = .ok (.aload_n 1, 1) := by decide +kernel
theorem d_So_addFeed_1 : decode (am_Mof y_So_addFeed).1 1 = .ok (.iload_n 2, 1) := by decide +kernel
theorem d_So_addFeed_2 : decode (am_Mof y_So_addFeed).1 2 = .ok (.invokevirtual 123, 3) := by decide +kernel
theorem d_So_addFeed_5 : decode (am_Mof y_So_addFeed).1 5 = .ok (.istore_n 3, 1) := by decide +kernel
theorem d_So_addFeed_6 : decode (am_Mof y_So_addFeed).1 6 = .ok (.aload_n 1, 1) := by decide +kernel
theorem d_So_addFeed_7 : decode (am_Mof y_So_addFeed).1 7 = .ok (.iload_n 2, 1) := by decide +kernel
theorem d_So_addFeed_8 : decode (am_Mof y_So_addFeed).1 8 = .ok (.invokevirtual 127, 3) := by decide +kernel
theorem d_So_addFeed_11 : decode (am_Mof y_So_addFeed).1 11 = .ok (.istore 4, 2) := by decide +kernel
theorem d_So_addFeed_13 : decode (am_Mof y_So_addFeed).1 13 = .ok (.aload_n 1, 1) := by decide +kernel
theorem d_So_addFeed_14 : decode (am_Mof y_So_addFeed).1 14 = .ok (.iload_n 2, 1) := by decide +kernel
theorem d_So_addFeed_15 : decode (am_Mof y_So_addFeed).1 15 = .ok (.invokevirtual 130, 3) := by decide +kernel
theorem d_So_addFeed_18 : decode (am_Mof y_So_addFeed).1 18 = .ok (.iload_n 3, 1) := by decide +kernel
theorem d_So_addFeed_19 : decode (am_Mof y_So_addFeed).1 19 = .ok (.invokestatic 64, 3) := by decide +kernel
theorem d_So_addFeed_22 : decode (am_Mof y_So_addFeed).1 22 = .ok (.istore 5, 2) := by decide +kernel
theorem d_So_addFeed_24 : decode (am_Mof y_So_addFeed).1 24 = .ok (.aload_n 1, 1) := by decide +kernel
theorem d_So_addFeed_25 : decode (am_Mof y_So_addFeed).1 25 = .ok (.iload_n 2, 1) := by decide +kernel
theorem d_So_addFeed_26 : decode (am_Mof y_So_addFeed).1 26 = .ok (.invokevirtual 133, 3) := by decide +kernel
theorem d_So_addFeed_29 : decode (am_Mof y_So_addFeed).1 29 = .ok (.lstore 6, 2) := by decide +kernel
theorem d_So_addFeed_31 : decode (am_Mof y_So_addFeed).1 31 = .ok (.aload_n 0, 1) := by decide +kernel
theorem d_So_addFeed_32 : decode (am_Mof y_So_addFeed).1 32 = .ok (.getfield 25, 3) := by decide +kernel
theorem d_So_addFeed_35 : decode (am_Mof y_So_addFeed).1 35 = .ok (.iload 5, 2) := by decide +kernel
theorem d_So_addFeed_37 : decode (am_Mof y_So_addFeed).1 37 = .ok (.bipush 10, 2) := by decide +kernel
theorem d_So_addFeed_39 : decode (am_Mof y_So_addFeed).1 39 = .ok (.imul, 1) := by decide +kernel
theorem d_So_addFeed_40 : decode (am_Mof y_So_addFeed).1 40 = .ok (.iload 4, 2) := by decide +kernel
theorem d_So_addFeed_42 : decode (am_Mof y_So_addFeed).1 42 = .ok (.iadd, 1) := by decide +kernel
theorem d_So_addFeed_43 : decode (am_Mof y_So_addFeed).1 43 = .ok (.dup2, 1) := by decide +kernel
theorem d_So_addFeed_44 : decode (am_Mof y_So_addFeed).1 44 = .ok (.laload, 1) := by decide +kernel
theorem d_So_addFeed_45 : decode (am_Mof y_So_addFeed).1 45 = .ok (.lload 6, 2) := by decide +kernel
theorem d_So_addFeed_47 : decode (am_Mof y_So_addFeed).1 47 = .ok (.ladd, 1) := by decide +kernel
theorem d_So_addFeed_48 : decode (am_Mof y_So_addFeed).1 48 = .ok (.lastore, 1) := by decide +kernel
theorem d_So_addFeed_49 : decode (am_Mof y_So_addFeed).1 49 = .ok (.aload_n 0, 1) := by decide +kernel
theorem d_So_addFeed_50 : decode (am_Mof y_So_addFeed).1 50 = .ok (.getfield 28, 3) := by decide +kernel
theorem d_So_addFeed_53 : decode (am_Mof y_So_addFeed).1 53 = .ok (.iload_n 3, 1) := by decide +kernel
theorem d_So_addFeed_54 : decode (am_Mof y_So_addFeed).1 54 = .ok (.iload 4, 2) := by decide +kernel
theorem d_So_addFeed_56 : decode (am_Mof y_So_addFeed).1 56 = .ok (.invokestatic 68, 3) := by decide +kernel
theorem d_So_addFeed_59 : decode (am_Mof y_So_addFeed).1 59 = .ok (.dup2, 1) := by decide +kernel
theorem d_So_addFeed_60 : decode (am_Mof y_So_addFeed).1 60 = .ok (.laload, 1) := by decide +kernel
theorem d_So_addFeed_61 : decode (am_Mof y_So_addFeed).1 61 = .ok (.lload 6, 2) := by decide +kernel
theorem d_So_addFeed_63 : decode (am_Mof y_So_addFeed).1 63 = .ok (.ladd, 1) := by decide +kernel
theorem d_So_addFeed_64 : decode (am_Mof y_So_addFeed).1 64 = .ok (.lastore, 1) := by decide +kernel
theorem d_So_addFeed_65 : decode (am_Mof y_So_addFeed).1 65 = .ok (.aload_n 0, 1) := by decide +kernel
theorem d_So_addFeed_66 : decode (am_Mof y_So_addFeed).1 66 = .ok (.getfield 31, 3) := by decide +kernel
theorem d_So_addFeed_69 : decode (am_Mof y_So_addFeed).1 69 = .ok (.aload_n 1, 1) := by decide +kernel
theorem d_So_addFeed_70 : decode (am_Mof y_So_addFeed).1 70 = .ok (.iload_n 2, 1) := by decide +kernel
theorem d_So_addFeed_71 : decode (am_Mof y_So_addFeed).1 71 = .ok (.invokevirtual 136, 3) := by decide +kernel
theorem d_So_addFeed_74 : decode (am_Mof y_So_addFeed).1 74 = .ok (.iload_n 3, 1) := by decide +kernel
theorem d_So_addFeed_75 : decode (am_Mof y_So_addFeed).1 75 = .ok (.iload 4, 2) := by decide +kernel
theorem d_So_addFeed_77 : decode (am_Mof y_So_addFeed).1 77 = .ok (.invokestatic 48, 3) := by decide +kernel
theorem d_So_addFeed_80 : decode (am_Mof y_So_addFeed).1 80 = .ok (.dup2, 1) := by decide +kernel
theorem d_So_addFeed_81 : decode (am_Mof y_So_addFeed).1 81 = .ok (.laload, 1) := by decide +kernel
theorem d_So_addFeed_82 : decode (am_Mof y_So_addFeed).1 82 = .ok (.lload 6, 2) := by decide +kernel
theorem d_So_addFeed_84 : decode (am_Mof y_So_addFeed).1 84 = .ok (.aload_n 0, 1) := by decide +kernel
theorem d_So_addFeed_85 : decode (am_Mof y_So_addFeed).1 85 = .ok (.getfield 22, 3) := by decide +kernel
theorem d_So_addFeed_88 : decode (am_Mof y_So_addFeed).1 88 = .ok (.iload 5, 2) := by decide +kernel
theorem d_So_addFeed_90 : decode (am_Mof y_So_addFeed).1 90 = .ok (.laload, 1) := by decide +kernel
theorem d_So_addFeed_91 : decode (am_Mof y_So_addFeed).1 91 = .ok (.lmul, 1) := by decide +kernel
theorem d_So_addFeed_92 : decode (am_Mof y_So_addFeed).1 92 = .ok (.ladd, 1) := by decide +kernel
theorem d_So_addFeed_93 : decode (am_Mof y_So_addFeed).1 93 = .ok (.lastore, 1) := by decide +kernel
theorem d_So_addFeed_94 : decode (am_Mof y_So_addFeed).1 94 = .ok (.return_, 1) := by decide +kernel
theorem d_So_fillStocks_0 : decode (am_Mof y_So_fillStocks).1 0 = .ok (.iconst 0, 1) := by decide +kernel
theorem d_So_fillStocks_1 : decode (am_Mof y_So_fillStocks).1 1 = .ok (.istore_n 1, 1) := by decide +kernel
theorem d_So_fillStocks_2 : decode (am_Mof y_So_fillStocks).1 2 = .ok (.iload_n 1, 1) := by decide +kernel
theorem d_So_fillStocks_3 : decode (am_Mof y_So_fillStocks).1 3 = .ok (.iconst 4, 1) := by decide +kernel
theorem d_So_fillStocks_4 : decode (am_Mof y_So_fillStocks).1 4 = .ok (.if_icmp .ge 63, 3) := by decide +kernel
theorem d_So_fillStocks_7 : decode (am_Mof y_So_fillStocks).1 7 = .ok (.iconst 0, 1) := by decide +kernel
theorem d_So_fillStocks_8 : decode (am_Mof y_So_fillStocks).1 8 = .ok (.istore_n 2, 1) := by decide +kernel
theorem d_So_fillStocks_9 : decode (am_Mof y_So_fillStocks).1 9 = .ok (.iload_n 2, 1) := by decide +kernel
theorem d_So_fillStocks_10 : decode (am_Mof y_So_fillStocks).1 10 = .ok (.iconst 4, 1) := by decide +kernel
theorem d_So_fillStocks_11 : decode (am_Mof y_So_fillStocks).1 11 = .ok (.if_icmp .ge 50, 3) := by decide +kernel
theorem d_So_fillStocks_14 : decode (am_Mof y_So_fillStocks).1 14 = .ok (.iconst 0, 1) := by decide +kernel
theorem d_So_fillStocks_15 : decode (am_Mof y_So_fillStocks).1 15 = .ok (.istore_n 3, 1) := by decide +kernel
theorem d_So_fillStocks_16 : decode (am_Mof y_So_fillStocks).1 16 = .ok (.iload_n 3, 1) := by decide +kernel
theorem d_So_fillStocks_17 : decode (am_Mof y_So_fillStocks).1 17 = .ok (.bipush 10, 2) := by decide +kernel
theorem d_So_fillStocks_19 : decode (am_Mof y_So_fillStocks).1 19 = .ok (.if_icmp .ge 36, 3) := by decide +kernel
theorem d_So_fillStocks_22 : decode (am_Mof y_So_fillStocks).1 22 = .ok (.iload_n 1, 1) := by decide +kernel
theorem d_So_fillStocks_23 : decode (am_Mof y_So_fillStocks).1 23 = .ok (.iload_n 2, 1) := by decide +kernel
theorem d_So_fillStocks_24 : decode (am_Mof y_So_fillStocks).1 24 = .ok (.iload_n 3, 1) := by decide +kernel
theorem d_So_fillStocks_25 : decode (am_Mof y_So_fillStocks).1 25 = .ok (.invokestatic 48, 3) := by decide +kernel
theorem d_So_fillStocks_28 : decode (am_Mof y_So_fillStocks).1 28 = .ok (.istore 4, 2) := by decide +kernel
theorem d_So_fillStocks_30 : decode (am_Mof y_So_fillStocks).1 30 = .ok (.aload_n 0, 1) := by decide +kernel
theorem d_So_fillStocks_31 : decode (am_Mof y_So_fillStocks).1 31 = .ok (.getfield 34, 3) := by decide +kernel
theorem d_So_fillStocks_34 : decode (am_Mof y_So_fillStocks).1 34 = .ok (.iload 4, 2) := by decide +kernel
theorem d_So_fillStocks_36 : decode (am_Mof y_So_fillStocks).1 36 = .ok (.aload_n 0, 1) := by decide +kernel
theorem d_So_fillStocks_37 : decode (am_Mof y_So_fillStocks).1 37 = .ok (.aload_n 0, 1) := by decide +kernel
theorem d_So_fillStocks_38 : decode (am_Mof y_So_fillStocks).1 38 = .ok (.getfield 31, 3) := by decide +kernel
theorem d_So_fillStocks_41 : decode (am_Mof y_So_fillStocks).1 41 = .ok (.iload 4, 2) := by decide +kernel
theorem d_So_fillStocks_43 : decode (am_Mof y_So_fillStocks).1 43 = .ok (.laload, 1) := by decide +kernel
theorem d_So_fillStocks_44 : decode (am_Mof y_So_fillStocks).1 44 = .ok (.iload_n 2, 1) := by decide +kernel
theorem d_So_fillStocks_45 : decode (am_Mof y_So_fillStocks).1 45 = .ok (.invokevirtual 60, 3) := by decide +kernel
theorem d_So_fillStocks_48 : decode (am_Mof y_So_fillStocks).1 48 = .ok (.lastore, 1) := by decide +kernel
theorem d_So_fillStocks_49 : decode (am_Mof y_So_fillStocks).1 49 = .ok (.iinc 3 1, 3) := by decide +kernel
theorem d_So_fillStocks_52 : decode (am_Mof y_So_fillStocks).1 52 = .ok (.goto (-36), 3) := by decide +kernel
theorem d_So_fillStocks_55 : decode (am_Mof y_So_fillStocks).1 55 = .ok (.iinc 2 1, 3) := by decide +kernel
theorem d_So_fillStocks_58 : decode (am_Mof y_So_fillStocks).1 58 = .ok (.goto (-49), 3) := by decide +kernel
theorem d_So_fillStocks_61 : decode (am_Mof y_So_fillStocks).1 61 = .ok (.iinc 1 1, 3) := by decide +kernel
theorem d_So_fillStocks_64 : decode (am_Mof y_So_fillStocks).1 64 = .ok (.goto (-62), 3) := by decide +kernel
theorem d_So_fillStocks_67 : decode (am_Mof y_So_fillStocks).1 67 = .ok (.return_, 1) := by decide +kernel
theorem d_So_down_0 : decode (am_Mof y_So_down).1 0 = .ok (.aload_n 0, 1) := by decide +kernel
theorem d_So_down_1 : decode (am_Mof y_So_down).1 1 = .ok (.getfield 18, 3) := by decide +kernel
theorem d_So_down_4 : decode (am_Mof y_So_down).1 4 = .ok (.iload_n 3, 1) := by decide +kernel
theorem d_So_down_5 : decode (am_Mof y_So_down).1 5 = .ok (.laload, 1) := by decide +kernel
theorem d_So_down_6 : decode (am_Mof y_So_down).1 6 = .ok (.lconst 0, 1) := by decide +kernel
theorem d_So_down_7 : decode (am_Mof y_So_down).1 7 = .ok (.lcmp, 1) := by decide +kernel
theorem d_So_down_8 : decode (am_Mof y_So_down).1 8 = .ok (.ifCond .le 14, 3) := by decide +kernel
theorem d_So_down_11 : decode (am_Mof y_So_down).1 11 = .ok (.lload_n 1, 1) := by decide +kernel
theorem d_So_down_12 : decode (am_Mof y_So_down).1 12 = .ok (.aload_n 0, 1) := by decide +kernel
theorem d_So_down_13 : decode (am_Mof y_So_down).1 13 = .ok (.getfield 18, 3) := by decide +kernel
theorem d_So_down_16 : decode (am_Mof y_So_down).1 16 = .ok (.iload_n 3, 1) := by decide +kernel
theorem d_So_down_17 : decode (am_Mof y_So_down).1 17 = .ok (.laload, 1) := by decide +kernel
theorem d_So_down_18 : decode (am_Mof y_So_down).1 18 = .ok (.ldiv, 1) := by decide +kernel
theorem d_So_down_19 : decode (am_Mof y_So_down).1 19 = .ok (.goto 4, 3) := by decide +kernel
theorem d_So_down_22 : decode (am_Mof y_So_down).1 22 = .ok (.lconst 0, 1) := by decide +kernel
theorem d_So_down_23 : decode (am_Mof y_So_down).1 23 = .ok (.lreturn, 1) := by decide +kernel
theorem d_So_markLostBare_0 : decode (am_Mof y_So_markLostBare).1 0 = .ok (.aload_n 0, 1) := by decide +kernel
theorem d_So_markLostBare_1 : decode (am_Mof y_So_markLostBare).1 1 = .ok (.aload_n 1, 1) := by decide +kernel
theorem d_So_markLostBare_2 : decode (am_Mof y_So_markLostBare).1 2 = .ok (.aload_n 2, 1) := by decide +kernel
theorem d_So_markLostBare_3 : decode (am_Mof y_So_markLostBare).1 3 = .ok (.iload_n 3, 1) := by decide +kernel
theorem d_So_markLostBare_4 : decode (am_Mof y_So_markLostBare).1 4 = .ok (.invokevirtual 139, 3) := by decide +kernel
theorem d_So_markLostBare_7 : decode (am_Mof y_So_markLostBare).1 7 = .ok (.iconst 0, 1) := by decide +kernel
theorem d_So_markLostBare_8 : decode (am_Mof y_So_markLostBare).1 8 = .ok (.istore 4, 2) := by decide +kernel
theorem d_So_markLostBare_10 : decode (am_Mof y_So_markLostBare).1 10 = .ok (.iload 4, 2) := by decide +kernel
theorem d_So_markLostBare_12 : decode (am_Mof y_So_markLostBare).1 12 = .ok (.iconst 5, 1) := by decide +kernel
theorem d_So_markLostBare_13 : decode (am_Mof y_So_markLostBare).1 13 = .ok (.if_icmp .ge 37, 3) := by decide +kernel
theorem d_So_markLostBare_16 : decode (am_Mof y_So_markLostBare).1 16 = .ok (.aload_n 0, 1) := by decide +kernel
theorem d_So_markLostBare_17 : decode (am_Mof y_So_markLostBare).1 17 = .ok (.getfield 37, 3) := by decide +kernel
theorem d_So_markLostBare_20 : decode (am_Mof y_So_markLostBare).1 20 = .ok (.iload 4, 2) := by decide +kernel
theorem d_So_markLostBare_22 : decode (am_Mof y_So_markLostBare).1 22 = .ok (.baload, 1) := by decide +kernel
theorem d_So_markLostBare_23 : decode (am_Mof y_So_markLostBare).1 23 = .ok (.ifCond .eq 21, 3) := by decide +kernel
theorem d_So_markLostBare_26 : decode (am_Mof y_So_markLostBare).1 26 = .ok (.aload_n 1, 1) := by decide +kernel
theorem d_So_markLostBare_27 : decode (am_Mof y_So_markLostBare).1 27 = .ok (.iload 4, 2) := by decide +kernel
theorem d_So_markLostBare_29 : decode (am_Mof y_So_markLostBare).1 29 = .ok (.iload_n 3, 1) := by decide +kernel
theorem d_So_markLostBare_30 : decode (am_Mof y_So_markLostBare).1 30 = .ok (.invokevirtual 142, 3) := by decide +kernel
theorem d_So_markLostBare_33 : decode (am_Mof y_So_markLostBare).1 33 = .ok (.ifCond .eq 11, 3) := by decide +kernel
theorem d_So_markLostBare_36 : decode (am_Mof y_So_markLostBare).1 36 = .ok (.aload_n 0, 1) := by decide +kernel
theorem d_So_markLostBare_37 : decode (am_Mof y_So_markLostBare).1 37 = .ok (.getfield 41, 3) := by decide +kernel
theorem d_So_markLostBare_40 : decode (am_Mof y_So_markLostBare).1 40 = .ok (.iload 4, 2) := by decide +kernel
theorem d_So_markLostBare_42 : decode (am_Mof y_So_markLostBare).1 42 = .ok (.iconst 1, 1) := by decide +kernel
theorem d_So_markLostBare_43 : decode (am_Mof y_So_markLostBare).1 43 = .ok (.bastore, 1) := by decide +kernel
theorem d_So_markLostBare_44 : decode (am_Mof y_So_markLostBare).1 44 = .ok (.iinc 4 1, 3) := by decide +kernel
theorem d_So_markLostBare_47 : decode (am_Mof y_So_markLostBare).1 47 = .ok (.goto (-37), 3) := by decide +kernel
theorem d_So_markLostBare_50 : decode (am_Mof y_So_markLostBare).1 50 = .ok (.return_, 1) := by decide +kernel
theorem d_So_findCame_0 : decode (am_Mof y_So_findCame).1 0 = .ok (.iconst 0, 1) := by decide +kernel
theorem d_So_findCame_1 : decode (am_Mof y_So_findCame).1 1 = .ok (.istore 4, 2) := by decide +kernel
theorem d_So_findCame_3 : decode (am_Mof y_So_findCame).1 3 = .ok (.iload 4, 2) := by decide +kernel
theorem d_So_findCame_5 : decode (am_Mof y_So_findCame).1 5 = .ok (.iconst 5, 1) := by decide +kernel
theorem d_So_findCame_6 : decode (am_Mof y_So_findCame).1 6 = .ok (.if_icmp .ge 17, 3) := by decide +kernel
theorem d_So_findCame_9 : decode (am_Mof y_So_findCame).1 9 = .ok (.aload_n 0, 1) := by decide +kernel
theorem d_So_findCame_10 : decode (am_Mof y_So_findCame).1 10 = .ok (.getfield 37, 3) := by decide +kernel
theorem d_So_findCame_13 : decode (am_Mof y_So_findCame).1 13 = .ok (.iload 4, 2) := by decide +kernel
theorem d_So_findCame_15 : decode (am_Mof y_So_findCame).1 15 = .ok (.iconst 0, 1) := by decide +kernel
theorem d_So_findCame_16 : decode (am_Mof y_So_findCame).1 16 = .ok (.bastore, 1) := by decide +kernel
theorem d_So_findCame_17 : decode (am_Mof y_So_findCame).1 17 = .ok (.iinc 4 1, 3) := by decide +kernel
theorem d_So_findCame_20 : decode (am_Mof y_So_findCame).1 20 = .ok (.goto (-17), 3) := by decide +kernel
theorem d_So_findCame_23 : decode (am_Mof y_So_findCame).1 23 = .ok (.iconst 0, 1) := by decide +kernel
theorem d_So_findCame_24 : decode (am_Mof y_So_findCame).1 24 = .ok (.istore 4, 2) := by decide +kernel
theorem d_So_findCame_26 : decode (am_Mof y_So_findCame).1 26 = .ok (.iload 4, 2) := by decide +kernel
theorem d_So_findCame_28 : decode (am_Mof y_So_findCame).1 28 = .ok (.aload_n 2, 1) := by decide +kernel
theorem d_So_findCame_29 : decode (am_Mof y_So_findCame).1 29 = .ok (.invokevirtual 96, 3) := by decide +kernel
theorem d_So_findCame_32 : decode (am_Mof y_So_findCame).1 32 = .ok (.if_icmp .ge 42, 3) := by decide +kernel
theorem d_So_findCame_35 : decode (am_Mof y_So_findCame).1 35 = .ok (.aload_n 2, 1) := by decide +kernel
theorem d_So_findCame_36 : decode (am_Mof y_So_findCame).1 36 = .ok (.iload 4, 2) := by decide +kernel
theorem d_So_findCame_38 : decode (am_Mof y_So_findCame).1 38 = .ok (.invokevirtual 123, 3) := by decide +kernel
theorem d_So_findCame_41 : decode (am_Mof y_So_findCame).1 41 = .ok (.iload_n 3, 1) := by decide +kernel
theorem d_So_findCame_42 : decode (am_Mof y_So_findCame).1 42 = .ok (.if_icmp .ne 26, 3) := by decide +kernel
theorem d_So_findCame_45 : decode (am_Mof y_So_findCame).1 45 = .ok (.aload_n 2, 1) := by decide +kernel
theorem d_So_findCame_46 : decode (am_Mof y_So_findCame).1 46 = .ok (.iload 4, 2) := by decide +kernel
theorem d_So_findCame_48 : decode (am_Mof y_So_findCame).1 48 = .ok (.invokevirtual 133, 3) := by decide +kernel
theorem d_So_findCame_51 : decode (am_Mof y_So_findCame).1 51 = .ok (.lconst 0, 1) := by decide +kernel
theorem d_So_findCame_52 : decode (am_Mof y_So_findCame).1 52 = .ok (.lcmp, 1) := by decide +kernel
theorem d_So_findCame_53 : decode (am_Mof y_So_findCame).1 53 = .ok (.ifCond .le 15, 3) := by decide +kernel
theorem d_So_findCame_56 : decode (am_Mof y_So_findCame).1 56 = .ok (.aload_n 0, 1) := by decide +kernel
theorem d_So_findCame_57 : decode (am_Mof y_So_findCame).1 57 = .ok (.getfield 37, 3) := by decide +kernel
theorem d_So_findCame_60 : decode (am_Mof y_So_findCame).1 60 = .ok (.aload_n 2, 1) := by decide +kernel
theorem d_So_findCame_61 : decode (am_Mof y_So_findCame).1 61 = .ok (.iload 4, 2) := by decide +kernel
theorem d_So_findCame_63 : decode (am_Mof y_So_findCame).1 63 = .ok (.invokevirtual 130, 3) := by decide +kernel
theorem d_So_findCame_66 : decode (am_Mof y_So_findCame).1 66 = .ok (.iconst 1, 1) := by decide +kernel
theorem d_So_findCame_67 : decode (am_Mof y_So_findCame).1 67 = .ok (.bastore, 1) := by decide +kernel
theorem d_So_findCame_68 : decode (am_Mof y_So_findCame).1 68 = .ok (.iinc 4 1, 3) := by decide +kernel
theorem d_So_findCame_71 : decode (am_Mof y_So_findCame).1 71 = .ok (.goto (-45), 3) := by decide +kernel
theorem d_So_findCame_74 : decode (am_Mof y_So_findCame).1 74 = .ok (.iconst 1, 1) := by decide +kernel
theorem d_So_findCame_75 : decode (am_Mof y_So_findCame).1 75 = .ok (.istore 4, 2) := by decide +kernel
theorem d_So_findCame_77 : decode (am_Mof y_So_findCame).1 77 = .ok (.iload 4, 2) := by decide +kernel
theorem d_So_findCame_79 : decode (am_Mof y_So_findCame).1 79 = .ok (.iconst 5, 1) := by decide +kernel
theorem d_So_findCame_80 : decode (am_Mof y_So_findCame).1 80 = .ok (.if_icmp .ge 51, 3) := by decide +kernel
theorem d_So_findCame_83 : decode (am_Mof y_So_findCame).1 83 = .ok (.iconst 0, 1) := by decide +kernel
theorem d_So_findCame_84 : decode (am_Mof y_So_findCame).1 84 = .ok (.istore 5, 2) := by decide +kernel
theorem d_So_findCame_86 : decode (am_Mof y_So_findCame).1 86 = .ok (.iload 5, 2) := by decide +kernel
theorem d_So_findCame_88 : decode (am_Mof y_So_findCame).1 88 = .ok (.iconst 5, 1) := by decide +kernel
theorem d_So_findCame_89 : decode (am_Mof y_So_findCame).1 89 = .ok (.if_icmp .ge 36, 3) := by decide +kernel
theorem d_So_findCame_92 : decode (am_Mof y_So_findCame).1 92 = .ok (.aload_n 0, 1) := by decide +kernel
theorem d_So_findCame_93 : decode (am_Mof y_So_findCame).1 93 = .ok (.getfield 37, 3) := by decide +kernel
theorem d_So_findCame_96 : decode (am_Mof y_So_findCame).1 96 = .ok (.iload 5, 2) := by decide +kernel
theorem d_So_findCame_98 : decode (am_Mof y_So_findCame).1 98 = .ok (.baload, 1) := by decide +kernel
theorem d_So_findCame_99 : decode (am_Mof y_So_findCame).1 99 = .ok (.ifCond .eq 20, 3) := by decide +kernel
theorem d_So_findCame_102 : decode (am_Mof y_So_findCame).1 102 = .ok (.aload_n 1, 1) := by decide +kernel
theorem d_So_findCame_103 : decode (am_Mof y_So_findCame).1 103 = .ok (.iload 5, 2) := by decide +kernel
theorem d_So_findCame_105 : decode (am_Mof y_So_findCame).1 105 = .ok (.iload_n 3, 1) := by decide +kernel
theorem d_So_findCame_106 : decode (am_Mof y_So_findCame).1 106 = .ok (.invokevirtual 148, 3) := by decide +kernel
theorem d_So_findCame_109 : decode (am_Mof y_So_findCame).1 109 = .ok (.ifCond .eq 10, 3) := by decide +kernel
theorem d_So_findCame_112 : decode (am_Mof y_So_findCame).1 112 = .ok (.aload_n 0, 1) := by decide +kernel
theorem d_So_findCame_113 : decode (am_Mof y_So_findCame).1 113 = .ok (.aload_n 1, 1) := by decide +kernel
theorem d_So_findCame_114 : decode (am_Mof y_So_findCame).1 114 = .ok (.iload 5, 2) := by decide +kernel
theorem d_So_findCame_116 : decode (am_Mof y_So_findCame).1 116 = .ok (.invokevirtual 151, 3) := by decide +kernel
theorem d_So_findCame_119 : decode (am_Mof y_So_findCame).1 119 = .ok (.iinc 5 1, 3) := by decide +kernel
theorem d_So_findCame_122 : decode (am_Mof y_So_findCame).1 122 = .ok (.goto (-36), 3) := by decide +kernel
theorem d_So_findCame_125 : decode (am_Mof y_So_findCame).1 125 = .ok (.iinc 4 1, 3) := by decide +kernel
theorem d_So_findCame_128 : decode (am_Mof y_So_findCame).1 128 = .ok (.goto (-51), 3) := by decide +kernel
theorem d_So_findCame_131 : decode (am_Mof y_So_findCame).1 131 = .ok (.return_, 1) := by decide +kernel
theorem d_So_markNext_0 : decode (am_Mof y_So_markNext).1 0 = .ok (.iconst 0, 1) := by decide +kernel
theorem d_So_markNext_1 : decode (am_Mof y_So_markNext).1 1 = .ok (.istore_n 3, 1) := by decide +kernel
theorem d_So_markNext_2 : decode (am_Mof y_So_markNext).1 2 = .ok (.iload_n 3, 1) := by decide +kernel
theorem d_So_markNext_3 : decode (am_Mof y_So_markNext).1 3 = .ok (.iconst 5, 1) := by decide +kernel
theorem d_So_markNext_4 : decode (am_Mof y_So_markNext).1 4 = .ok (.if_icmp .ge 38, 3) := by decide +kernel
theorem d_So_markNext_7 : decode (am_Mof y_So_markNext).1 7 = .ok (.aload_n 0, 1) := by decide +kernel
theorem d_So_markNext_8 : decode (am_Mof y_So_markNext).1 8 = .ok (.getfield 37, 3) := by decide +kernel
theorem d_So_markNext_11 : decode (am_Mof y_So_markNext).1 11 = .ok (.iload_n 3, 1) := by decide +kernel
theorem d_So_markNext_12 : decode (am_Mof y_So_markNext).1 12 = .ok (.aload_n 0, 1) := by decide +kernel
theorem d_So_markNext_13 : decode (am_Mof y_So_markNext).1 13 = .ok (.getfield 37, 3) := by decide +kernel
theorem d_So_markNext_16 : decode (am_Mof y_So_markNext).1 16 = .ok (.iload_n 3, 1) := by decide +kernel
theorem d_So_markNext_17 : decode (am_Mof y_So_markNext).1 17 = .ok (.baload, 1) := by decide +kernel
theorem d_So_markNext_18 : decode (am_Mof y_So_markNext).1 18 = .ok (.ifCond .ne 12, 3) := by decide +kernel
theorem d_So_markNext_21 : decode (am_Mof y_So_markNext).1 21 = .ok (.aload_n 1, 1) := by decide +kernel
theorem d_So_markNext_22 : decode (am_Mof y_So_markNext).1 22 = .ok (.iload_n 2, 1) := by decide +kernel
theorem d_So_markNext_23 : decode (am_Mof y_So_markNext).1 23 = .ok (.iload_n 3, 1) := by decide +kernel
theorem d_So_markNext_24 : decode (am_Mof y_So_markNext).1 24 = .ok (.invokevirtual 154, 3) := by decide +kernel
theorem d_So_markNext_27 : decode (am_Mof y_So_markNext).1 27 = .ok (.ifCond .le 7, 3) := by decide +kernel
theorem d_So_markNext_30 : decode (am_Mof y_So_markNext).1 30 = .ok (.iconst 1, 1) := by decide +kernel
theorem d_So_markNext_31 : decode (am_Mof y_So_markNext).1 31 = .ok (.goto 4, 3) := by decide +kernel
theorem d_So_markNext_34 : decode (am_Mof y_So_markNext).1 34 = .ok (.iconst 0, 1) := by decide +kernel
theorem d_So_markNext_35 : decode (am_Mof y_So_markNext).1 35 = .ok (.bastore, 1) := by decide +kernel
theorem d_So_markNext_36 : decode (am_Mof y_So_markNext).1 36 = .ok (.iinc 3 1, 3) := by decide +kernel
theorem d_So_markNext_39 : decode (am_Mof y_So_markNext).1 39 = .ok (.goto (-37), 3) := by decide +kernel
theorem d_So_markNext_42 : decode (am_Mof y_So_markNext).1 42 = .ok (.return_, 1) := by decide +kernel
theorem d_So_isThere_0 : decode (am_Mof y_So_isThere).1 0 = .ok (.aload_n 0, 1) := by decide +kernel
theorem d_So_isThere_1 : decode (am_Mof y_So_isThere).1 1 = .ok (.getfield 44, 3) := by decide +kernel
theorem d_So_isThere_4 : decode (am_Mof y_So_isThere).1 4 = .ok (.ireturn, 1) := by decide +kernel
theorem d_So_aboveOf_0 : decode (am_Mof y_So_aboveOf).1 0 = .ok (.lconst 0, 1) := by decide +kernel
theorem d_So_aboveOf_1 : decode (am_Mof y_So_aboveOf).1 1 = .ok (.lstore_n 3, 1) := by decide +kernel
theorem d_So_aboveOf_2 : decode (am_Mof y_So_aboveOf).1 2 = .ok (.iconst 0, 1) := by decide +kernel
theorem d_So_aboveOf_3 : decode (am_Mof y_So_aboveOf).1 3 = .ok (.istore 5, 2) := by decide +kernel
theorem d_So_aboveOf_5 : decode (am_Mof y_So_aboveOf).1 5 = .ok (.iload 5, 2) := by decide +kernel
theorem d_So_aboveOf_7 : decode (am_Mof y_So_aboveOf).1 7 = .ok (.iconst 4, 1) := by decide +kernel
theorem d_So_aboveOf_8 : decode (am_Mof y_So_aboveOf).1 8 = .ok (.if_icmp .ge 20, 3) := by decide +kernel
theorem d_So_aboveOf_11 : decode (am_Mof y_So_aboveOf).1 11 = .ok (.lload_n 3, 1) := by decide +kernel
theorem d_So_aboveOf_12 : decode (am_Mof y_So_aboveOf).1 12 = .ok (.aload_n 0, 1) := by decide +kernel
theorem d_So_aboveOf_13 : decode (am_Mof y_So_aboveOf).1 13 = .ok (.iload 5, 2) := by decide +kernel
theorem d_So_aboveOf_15 : decode (am_Mof y_So_aboveOf).1 15 = .ok (.iload_n 1, 1) := by decide +kernel
theorem d_So_aboveOf_16 : decode (am_Mof y_So_aboveOf).1 16 = .ok (.iload_n 2, 1) := by decide +kernel
theorem d_So_aboveOf_17 : decode (am_Mof y_So_aboveOf).1 17 = .ok (.invokevirtual 52, 3) := by decide +kernel
theorem d_So_aboveOf_20 : decode (am_Mof y_So_aboveOf).1 20 = .ok (.ladd, 1) := by decide +kernel
theorem d_So_aboveOf_21 : decode (am_Mof y_So_aboveOf).1 21 = .ok (.lstore_n 3, 1) := by decide +kernel
theorem d_So_aboveOf_22 : decode (am_Mof y_So_aboveOf).1 22 = .ok (.iinc 5 1, 3) := by decide +kernel
theorem d_So_aboveOf_25 : decode (am_Mof y_So_aboveOf).1 25 = .ok (.goto (-20), 3) := by decide +kernel
theorem d_So_aboveOf_28 : decode (am_Mof y_So_aboveOf).1 28 = .ok (.lload_n 3, 1) := by decide +kernel
theorem d_So_aboveOf_29 : decode (am_Mof y_So_aboveOf).1 29 = .ok (.lreturn, 1) := by decide +kernel
theorem d_So_aboveOfCountry_0 : decode (am_Mof y_So_aboveOfCountry).1 0 = .ok (.aload_n 0, 1) := by decide +kernel
theorem d_So_aboveOfCountry_1 : decode (am_Mof y_So_aboveOfCountry).1 1 = .ok (.getfield 31, 3) := by decide +kernel
theorem d_So_aboveOfCountry_4 : decode (am_Mof y_So_aboveOfCountry).1 4 = .ok (.iload_n 1, 1) := by decide +kernel
theorem d_So_aboveOfCountry_5 : decode (am_Mof y_So_aboveOfCountry).1 5 = .ok (.iload_n 2, 1) := by decide +kernel
theorem d_So_aboveOfCountry_6 : decode (am_Mof y_So_aboveOfCountry).1 6 = .ok (.iload_n 3, 1) := by decide +kernel
theorem d_So_aboveOfCountry_7 : decode (am_Mof y_So_aboveOfCountry).1 7 = .ok (.invokestatic 48, 3) := by decide +kernel
theorem d_So_aboveOfCountry_10 : decode (am_Mof y_So_aboveOfCountry).1 10 = .ok (.laload, 1) := by decide +kernel
theorem d_So_aboveOfCountry_11 : decode (am_Mof y_So_aboveOfCountry).1 11 = .ok (.lreturn, 1) := by decide +kernel
theorem d_So_belowOf_0 : decode (am_Mof y_So_belowOf).1 0 = .ok (.aload_n 0, 1) := by decide +kernel
theorem d_So_belowOf_1 : decode (am_Mof y_So_belowOf).1 1 = .ok (.getfield 18, 3) := by decide +kernel
theorem d_So_belowOf_4 : decode (am_Mof y_So_belowOf).1 4 = .ok (.iload_n 1, 1) := by decide +kernel
theorem d_So_belowOf_5 : decode (am_Mof y_So_belowOf).1 5 = .ok (.laload, 1) := by decide +kernel
theorem d_So_belowOf_6 : decode (am_Mof y_So_belowOf).1 6 = .ok (.lreturn, 1) := by decide +kernel
theorem d_So_lostBareAt_0 : decode (am_Mof y_So_lostBareAt).1 0 = .ok (.aload_n 0, 1) := by decide +kernel
theorem d_So_lostBareAt_1 : decode (am_Mof y_So_lostBareAt).1 1 = .ok (.getfield 41, 3) := by decide +kernel
theorem d_So_lostBareAt_4 : decode (am_Mof y_So_lostBareAt).1 4 = .ok (.iload_n 1, 1) := by decide +kernel
theorem d_So_lostBareAt_5 : decode (am_Mof y_So_lostBareAt).1 5 = .ok (.baload, 1) := by decide +kernel
theorem d_So_lostBareAt_6 : decode (am_Mof y_So_lostBareAt).1 6 = .ok (.ireturn, 1) := by decide +kernel
theorem d_So_isNeverMoreThanBrought_0 : decode (am_Mof y_So_isNeverMoreThanBrought).1 0 = .ok (.iconst 0, 1) := by decide +kernel
theorem d_So_isNeverMoreThanBrought_1 : decode (am_Mof y_So_isNeverMoreThanBrought).1 1 = .ok (.istore_n 1, 1) := by decide +kernel
theorem d_So_isNeverMoreThanBrought_2 : decode (am_Mof y_So_isNeverMoreThanBrought).1 2 = .ok (.iload_n 1, 1) := by decide +kernel
theorem d_So_isNeverMoreThanBrought_3 : decode (am_Mof y_So_isNeverMoreThanBrought).1 3 = .ok (.iconst 4, 1) := by decide +kernel
theorem d_So_isNeverMoreThanBrought_4 : decode (am_Mof y_So_isNeverMoreThanBrought).1 4 = .ok (.if_icmp .ge 52, 3) := by decide +kernel
theorem d_So_isNeverMoreThanBrought_7 : decode (am_Mof y_So_isNeverMoreThanBrought).1 7 = .ok (.iconst 0, 1) := by decide +kernel
theorem d_So_isNeverMoreThanBrought_8 : decode (am_Mof y_So_isNeverMoreThanBrought).1 8 = .ok (.istore_n 2, 1) := by decide +kernel
theorem d_So_isNeverMoreThanBrought_9 : decode (am_Mof y_So_isNeverMoreThanBrought).1 9 = .ok (.iload_n 2, 1) := by decide +kernel
theorem d_So_isNeverMoreThanBrought_10 : decode (am_Mof y_So_isNeverMoreThanBrought).1 10 = .ok (.bipush 10, 2) := by decide +kernel
theorem d_So_isNeverMoreThanBrought_12 : decode (am_Mof y_So_isNeverMoreThanBrought).1 12 = .ok (.if_icmp .ge 38, 3) := by decide +kernel
theorem d_So_isNeverMoreThanBrought_15 : decode (am_Mof y_So_isNeverMoreThanBrought).1 15 = .ok (.aload_n 0, 1) := by decide +kernel
theorem d_So_isNeverMoreThanBrought_16 : decode (am_Mof y_So_isNeverMoreThanBrought).1 16 = .ok (.iload_n 1, 1) := by decide +kernel
theorem d_So_isNeverMoreThanBrought_17 : decode (am_Mof y_So_isNeverMoreThanBrought).1 17 = .ok (.iload_n 2, 1) := by decide +kernel
theorem d_So_isNeverMoreThanBrought_18 : decode (am_Mof y_So_isNeverMoreThanBrought).1 18 = .ok (.invokevirtual 56, 3) := by decide +kernel
theorem d_So_isNeverMoreThanBrought_21 : decode (am_Mof y_So_isNeverMoreThanBrought).1 21 = .ok (.aload_n 0, 1) := by decide +kernel
theorem d_So_isNeverMoreThanBrought_22 : decode (am_Mof y_So_isNeverMoreThanBrought).1 22 = .ok (.getfield 28, 3) := by decide +kernel
theorem d_So_isNeverMoreThanBrought_25 : decode (am_Mof y_So_isNeverMoreThanBrought).1 25 = .ok (.iload_n 1, 1) := by decide +kernel
theorem d_So_isNeverMoreThanBrought_26 : decode (am_Mof y_So_isNeverMoreThanBrought).1 26 = .ok (.iload_n 2, 1) := by decide +kernel
theorem d_So_isNeverMoreThanBrought_27 : decode (am_Mof y_So_isNeverMoreThanBrought).1 27 = .ok (.invokestatic 68, 3) := by decide +kernel
theorem d_So_isNeverMoreThanBrought_30 : decode (am_Mof y_So_isNeverMoreThanBrought).1 30 = .ok (.laload, 1) := by decide +kernel
theorem d_So_isNeverMoreThanBrought_31 : decode (am_Mof y_So_isNeverMoreThanBrought).1 31 = .ok (.aload_n 0, 1) := by decide +kernel
theorem d_So_isNeverMoreThanBrought_32 : decode (am_Mof y_So_isNeverMoreThanBrought).1 32 = .ok (.getfield 18, 3) := by decide +kernel
theorem d_So_isNeverMoreThanBrought_35 : decode (am_Mof y_So_isNeverMoreThanBrought).1 35 = .ok (.iload_n 1, 1) := by decide +kernel
theorem d_So_isNeverMoreThanBrought_36 : decode (am_Mof y_So_isNeverMoreThanBrought).1 36 = .ok (.laload, 1) := by decide +kernel
theorem d_So_isNeverMoreThanBrought_37 : decode (am_Mof y_So_isNeverMoreThanBrought).1 37 = .ok (.lmul, 1) := by decide +kernel
theorem d_So_isNeverMoreThanBrought_38 : decode (am_Mof y_So_isNeverMoreThanBrought).1 38 = .ok (.lcmp, 1) := by decide +kernel
theorem d_So_isNeverMoreThanBrought_39 : decode (am_Mof y_So_isNeverMoreThanBrought).1 39 = .ok (.ifCond .le 5, 3) := by decide +kernel
theorem d_So_isNeverMoreThanBrought_42 : decode (am_Mof y_So_isNeverMoreThanBrought).1 42 = .ok (.iconst 0, 1) := by decide +kernel
theorem d_So_isNeverMoreThanBrought_43 : decode (am_Mof y_So_isNeverMoreThanBrought).1 43 = .ok (.ireturn, 1) := by decide +kernel
theorem d_So_isNeverMoreThanBrought_44 : decode (am_Mof y_So_isNeverMoreThanBrought).1 44 = .ok (.iinc 2 1, 3) := by decide +kernel
theorem d_So_isNeverMoreThanBrought_47 : decode (am_Mof y_So_isNeverMoreThanBrought).1 47 = .ok (.goto (-38), 3) := by decide +kernel
theorem d_So_isNeverMoreThanBrought_50 : decode (am_Mof y_So_isNeverMoreThanBrought).1 50 = .ok (.iinc 1 1, 3) := by decide +kernel
theorem d_So_isNeverMoreThanBrought_53 : decode (am_Mof y_So_isNeverMoreThanBrought).1 53 = .ok (.goto (-51), 3) := by decide +kernel
theorem d_So_isNeverMoreThanBrought_56 : decode (am_Mof y_So_isNeverMoreThanBrought).1 56 = .ok (.iconst 1, 1) := by decide +kernel
theorem d_So_isNeverMoreThanBrought_57 : decode (am_Mof y_So_isNeverMoreThanBrought).1 57 = .ok (.ireturn, 1) := by decide +kernel
theorem d_So_take_0 : decode (am_Mof y_So_take).1 0 = .ok (.iconst 0, 1) := by decide +kernel
theorem d_So_take_1 : decode (am_Mof y_So_take).1 1 = .ok (.iload_n 3, 1) := by decide +kernel
theorem d_So_take_2 : decode (am_Mof y_So_take).1 2 = .ok (.iconst 2, 1) := by decide +kernel
theorem d_So_take_3 : decode (am_Mof y_So_take).1 3 = .ok (.isub, 1) := by decide +kernel
theorem d_So_take_4 : decode (am_Mof y_So_take).1 4 = .ok (.invokestatic 71, 3) := by decide +kernel
theorem d_So_take_7 : decode (am_Mof y_So_take).1 7 = .ok (.istore 6, 2) := by decide +kernel
theorem d_So_take_9 : decode (am_Mof y_So_take).1 9 = .ok (.lconst 0, 1) := by decide +kernel
theorem d_So_take_10 : decode (am_Mof y_So_take).1 10 = .ok (.lstore 7, 2) := by decide +kernel
theorem d_So_take_12 : decode (am_Mof y_So_take).1 12 = .ok (.iload 6, 2) := by decide +kernel
theorem d_So_take_14 : decode (am_Mof y_So_take).1 14 = .ok (.istore 9, 2) := by decide +kernel
theorem d_So_take_16 : decode (am_Mof y_So_take).1 16 = .ok (.iload 9, 2) := by decide +kernel
theorem d_So_take_18 : decode (am_Mof y_So_take).1 18 = .ok (.iload_n 3, 1) := by decide +kernel
theorem d_So_take_19 : decode (am_Mof y_So_take).1 19 = .ok (.if_icmp .gt 22, 3) := by decide +kernel
theorem d_So_take_22 : decode (am_Mof y_So_take).1 22 = .ok (.lload 7, 2) := by decide +kernel
theorem d_So_take_24 : decode (am_Mof y_So_take).1 24 = .ok (.aload_n 0, 1) := by decide +kernel
theorem d_So_take_25 : decode (am_Mof y_So_take).1 25 = .ok (.iload_n 1, 1) := by decide +kernel
theorem d_So_take_26 : decode (am_Mof y_So_take).1 26 = .ok (.iload_n 2, 1) := by decide +kernel
theorem d_So_take_27 : decode (am_Mof y_So_take).1 27 = .ok (.iload 9, 2) := by decide +kernel
theorem d_So_take_29 : decode (am_Mof y_So_take).1 29 = .ok (.invokevirtual 76, 3) := by decide +kernel
theorem d_So_take_32 : decode (am_Mof y_So_take).1 32 = .ok (.ladd, 1) := by decide +kernel
theorem d_So_take_33 : decode (am_Mof y_So_take).1 33 = .ok (.lstore 7, 2) := by decide +kernel
theorem d_So_take_35 : decode (am_Mof y_So_take).1 35 = .ok (.iinc 9 1, 3) := by decide +kernel
theorem d_So_take_38 : decode (am_Mof y_So_take).1 38 = .ok (.goto (-22), 3) := by decide +kernel
theorem d_So_take_41 : decode (am_Mof y_So_take).1 41 = .ok (.lload 7, 2) := by decide +kernel
theorem d_So_take_43 : decode (am_Mof y_So_take).1 43 = .ok (.lload 4, 2) := by decide +kernel
theorem d_So_take_45 : decode (am_Mof y_So_take).1 45 = .ok (.lcmp, 1) := by decide +kernel
theorem d_So_take_46 : decode (am_Mof y_So_take).1 46 = .ok (.ifCond .ge 7, 3) := by decide +kernel
theorem d_So_take_49 : decode (am_Mof y_So_take).1 49 = .ok (.ldc2_w 79, 3) := by decide +kernel
theorem d_So_take_52 : decode (am_Mof y_So_take).1 52 = .ok (.lreturn, 1) := by decide +kernel
theorem d_So_take_53 : decode (am_Mof y_So_take).1 53 = .ok (.lload 4, 2) := by decide +kernel
theorem d_So_take_55 : decode (am_Mof y_So_take).1 55 = .ok (.lstore 9, 2) := by decide +kernel
theorem d_So_take_57 : decode (am_Mof y_So_take).1 57 = .ok (.iload 6, 2) := by decide +kernel
theorem d_So_take_59 : decode (am_Mof y_So_take).1 59 = .ok (.istore 11, 2) := by decide +kernel
theorem d_So_take_61 : decode (am_Mof y_So_take).1 61 = .ok (.iload 11, 2) := by decide +kernel
theorem d_So_take_63 : decode (am_Mof y_So_take).1 63 = .ok (.iload_n 3, 1) := by decide +kernel
theorem d_So_take_64 : decode (am_Mof y_So_take).1 64 = .ok (.if_icmp .gt 48, 3) := by decide +kernel
theorem d_So_take_67 : decode (am_Mof y_So_take).1 67 = .ok (.lload 9, 2) := by decide +kernel
theorem d_So_take_69 : decode (am_Mof y_So_take).1 69 = .ok (.aload_n 0, 1) := by decide +kernel
theorem d_So_take_70 : decode (am_Mof y_So_take).1 70 = .ok (.iload_n 1, 1) := by decide +kernel
theorem d_So_take_71 : decode (am_Mof y_So_take).1 71 = .ok (.iload_n 2, 1) := by decide +kernel
theorem d_So_take_72 : decode (am_Mof y_So_take).1 72 = .ok (.iload 11, 2) := by decide +kernel
theorem d_So_take_74 : decode (am_Mof y_So_take).1 74 = .ok (.invokevirtual 76, 3) := by decide +kernel
theorem d_So_take_77 : decode (am_Mof y_So_take).1 77 = .ok (.invokestatic 81, 3) := by decide +kernel
theorem d_So_take_80 : decode (am_Mof y_So_take).1 80 = .ok (.lstore 12, 2) := by decide +kernel
theorem d_So_take_82 : decode (am_Mof y_So_take).1 82 = .ok (.aload_n 0, 1) := by decide +kernel
theorem d_So_take_83 : decode (am_Mof y_So_take).1 83 = .ok (.getfield 34, 3) := by decide +kernel
theorem d_So_take_86 : decode (am_Mof y_So_take).1 86 = .ok (.iload_n 1, 1) := by decide +kernel
theorem d_So_take_87 : decode (am_Mof y_So_take).1 87 = .ok (.iload_n 2, 1) := by decide +kernel
theorem d_So_take_88 : decode (am_Mof y_So_take).1 88 = .ok (.iload 11, 2) := by decide +kernel
theorem d_So_take_90 : decode (am_Mof y_So_take).1 90 = .ok (.invokestatic 48, 3) := by decide +kernel
theorem d_So_take_93 : decode (am_Mof y_So_take).1 93 = .ok (.dup2, 1) := by decide +kernel
theorem d_So_take_94 : decode (am_Mof y_So_take).1 94 = .ok (.laload, 1) := by decide +kernel
theorem d_So_take_95 : decode (am_Mof y_So_take).1 95 = .ok (.lload 12, 2) := by decide +kernel
theorem d_So_take_97 : decode (am_Mof y_So_take).1 97 = .ok (.lsub, 1) := by decide +kernel
theorem d_So_take_98 : decode (am_Mof y_So_take).1 98 = .ok (.lastore, 1) := by decide +kernel
theorem d_So_take_99 : decode (am_Mof y_So_take).1 99 = .ok (.lload 9, 2) := by decide +kernel
theorem d_So_take_101 : decode (am_Mof y_So_take).1 101 = .ok (.lload 12, 2) := by decide +kernel
theorem d_So_take_103 : decode (am_Mof y_So_take).1 103 = .ok (.lsub, 1) := by decide +kernel
theorem d_So_take_104 : decode (am_Mof y_So_take).1 104 = .ok (.lstore 9, 2) := by decide +kernel
theorem d_So_take_106 : decode (am_Mof y_So_take).1 106 = .ok (.iinc 11 1, 3) := by decide +kernel
theorem d_So_take_109 : decode (am_Mof y_So_take).1 109 = .ok (.goto (-48), 3) := by decide +kernel
theorem d_So_take_112 : decode (am_Mof y_So_take).1 112 = .ok (.lload 7, 2) := by decide +kernel
theorem d_So_take_114 : decode (am_Mof y_So_take).1 114 = .ok (.lload 4, 2) := by decide +kernel
theorem d_So_take_116 : decode (am_Mof y_So_take).1 116 = .ok (.lsub, 1) := by decide +kernel
theorem d_So_take_117 : decode (am_Mof y_So_take).1 117 = .ok (.lreturn, 1) := by decide +kernel
theorem d_So_stockOf_0 : decode (am_Mof y_So_stockOf).1 0 = .ok (.aload_n 0, 1) := by decide +kernel
theorem d_So_stockOf_1 : decode (am_Mof y_So_stockOf).1 1 = .ok (.getfield 34, 3) := by decide +kernel
theorem d_So_stockOf_4 : decode (am_Mof y_So_stockOf).1 4 = .ok (.iload_n 1, 1) := by decide +kernel
theorem d_So_stockOf_5 : decode (am_Mof y_So_stockOf).1 5 = .ok (.iload_n 2, 1) := by decide +kernel
theorem d_So_stockOf_6 : decode (am_Mof y_So_stockOf).1 6 = .ok (.iload_n 3, 1) := by decide +kernel
theorem d_So_stockOf_7 : decode (am_Mof y_So_stockOf).1 7 = .ok (.invokestatic 48, 3) := by decide +kernel
theorem d_So_stockOf_10 : decode (am_Mof y_So_stockOf).1 10 = .ok (.laload, 1) := by decide +kernel
theorem d_So_stockOf_11 : decode (am_Mof y_So_stockOf).1 11 = .ok (.lreturn, 1) := by decide +kernel
theorem d_So_difference_0 : decode (am_Mof y_So_difference).1 0 = .ok (.iload_n 1, 1) := by decide +kernel
theorem d_So_difference_1 : decode (am_Mof y_So_difference).1 1 = .ok (.iload_n 2, 1) := by decide +kernel
theorem d_So_difference_2 : decode (am_Mof y_So_difference).1 2 = .ok (.invokestatic 64, 3) := by decide +kernel
theorem d_So_difference_5 : decode (am_Mof y_So_difference).1 5 = .ok (.istore 5, 2) := by decide +kernel
theorem d_So_difference_7 : decode (am_Mof y_So_difference).1 7 = .ok (.aload_n 0, 1) := by decide +kernel
theorem d_So_difference_8 : decode (am_Mof y_So_difference).1 8 = .ok (.getfield 25, 3) := by decide +kernel
theorem d_So_difference_11 : decode (am_Mof y_So_difference).1 11 = .ok (.iload 5, 2) := by decide +kernel
theorem d_So_difference_13 : decode (am_Mof y_So_difference).1 13 = .ok (.bipush 10, 2) := by decide +kernel
theorem d_So_difference_15 : decode (am_Mof y_So_difference).1 15 = .ok (.imul, 1) := by decide +kernel
theorem d_So_difference_16 : decode (am_Mof y_So_difference).1 16 = .ok (.iload 4, 2) := by decide +kernel
theorem d_So_difference_18 : decode (am_Mof y_So_difference).1 18 = .ok (.iadd, 1) := by decide +kernel
theorem d_So_difference_19 : decode (am_Mof y_So_difference).1 19 = .ok (.laload, 1) := by decide +kernel
theorem d_So_difference_20 : decode (am_Mof y_So_difference).1 20 = .ok (.aload_n 0, 1) := by decide +kernel
theorem d_So_difference_21 : decode (am_Mof y_So_difference).1 21 = .ok (.getfield 25, 3) := by decide +kernel
theorem d_So_difference_24 : decode (am_Mof y_So_difference).1 24 = .ok (.iload 5, 2) := by decide +kernel
theorem d_So_difference_26 : decode (am_Mof y_So_difference).1 26 = .ok (.bipush 10, 2) := by decide +kernel
theorem d_So_difference_28 : decode (am_Mof y_So_difference).1 28 = .ok (.imul, 1) := by decide +kernel
theorem d_So_difference_29 : decode (am_Mof y_So_difference).1 29 = .ok (.iload_n 3, 1) := by decide +kernel
theorem d_So_difference_30 : decode (am_Mof y_So_difference).1 30 = .ok (.iadd, 1) := by decide +kernel
theorem d_So_difference_31 : decode (am_Mof y_So_difference).1 31 = .ok (.laload, 1) := by decide +kernel
theorem d_So_difference_32 : decode (am_Mof y_So_difference).1 32 = .ok (.lsub, 1) := by decide +kernel
theorem d_So_difference_33 : decode (am_Mof y_So_difference).1 33 = .ok (.lstore 6, 2) := by decide +kernel
theorem d_So_difference_35 : decode (am_Mof y_So_difference).1 35 = .ok (.lload 6, 2) := by decide +kernel
theorem d_So_difference_37 : decode (am_Mof y_So_difference).1 37 = .ok (.aload_n 0, 1) := by decide +kernel
theorem d_So_difference_38 : decode (am_Mof y_So_difference).1 38 = .ok (.getfield 22, 3) := by decide +kernel
theorem d_So_difference_41 : decode (am_Mof y_So_difference).1 41 = .ok (.iload 5, 2) := by decide +kernel
theorem d_So_difference_43 : decode (am_Mof y_So_difference).1 43 = .ok (.laload, 1) := by decide +kernel
theorem d_So_difference_44 : decode (am_Mof y_So_difference).1 44 = .ok (.lmul, 1) := by decide +kernel
theorem d_So_difference_45 : decode (am_Mof y_So_difference).1 45 = .ok (.lreturn, 1) := by decide +kernel
theorem d_So_wholeGrams_0 : decode (am_Mof y_So_wholeGrams).1 0 = .ok (.aload_n 0, 1) := by decide +kernel
theorem d_So_wholeGrams_1 : decode (am_Mof y_So_wholeGrams).1 1 = .ok (.aload_n 0, 1) := by decide +kernel
theorem d_So_wholeGrams_2 : decode (am_Mof y_So_wholeGrams).1 2 = .ok (.iload_n 1, 1) := by decide +kernel
theorem d_So_wholeGrams_3 : decode (am_Mof y_So_wholeGrams).1 3 = .ok (.iload_n 2, 1) := by decide +kernel
theorem d_So_wholeGrams_4 : decode (am_Mof y_So_wholeGrams).1 4 = .ok (.invokevirtual 56, 3) := by decide +kernel
theorem d_So_wholeGrams_7 : decode (am_Mof y_So_wholeGrams).1 7 = .ok (.iload_n 1, 1) := by decide +kernel
theorem d_So_wholeGrams_8 : decode (am_Mof y_So_wholeGrams).1 8 = .ok (.invokevirtual 60, 3) := by decide +kernel
theorem d_So_wholeGrams_11 : decode (am_Mof y_So_wholeGrams).1 11 = .ok (.lreturn, 1) := by decide +kernel
theorem d_Te_init_0 : decode (am_Mof y_Te_init).1 0 = .ok (.aload_n 0, 1) := by decide +kernel
theorem d_Te_init_1 : decode (am_Mof y_Te_init).1 1 = .ok (.invokespecial 3, 3) := by decide +kernel
theorem d_Te_init_4 : decode (am_Mof y_Te_init).1 4 = .ok (.aload_n 0, 1) := by decide +kernel
theorem d_Te_init_5 : decode (am_Mof y_Te_init).1 5 = .ok (.sipush 200, 3) := by decide +kernel
theorem d_Te_init_8 : decode (am_Mof y_Te_init).1 8 = .ok (.newarray .int, 2) := by decide +kernel
theorem d_Te_init_10 : decode (am_Mof y_Te_init).1 10 = .ok (.putfield 9, 3) := by decide +kernel
theorem d_Te_init_13 : decode (am_Mof y_Te_init).1 13 = .ok (.aload_n 0, 1) := by decide +kernel
theorem d_Te_init_14 : decode (am_Mof y_Te_init).1 14 = .ok (.iconst 0, 1) := by decide +kernel
theorem d_Te_init_15 : decode (am_Mof y_Te_init).1 15 = .ok (.putfield 15, 3) := by decide +kernel
theorem d_Te_init_18 : decode (am_Mof y_Te_init).1 18 = .ok (.return_, 1) := by decide +kernel
theorem d_Te_add_0 : decode (am_Mof y_Te_add).1 0 = .ok (.aload_n 0, 1) := by decide +kernel
theorem d_Te_add_1 : decode (am_Mof y_Te_add).1 1 = .ok (.getfield 15, 3) := by decide +kernel
theorem d_Te_add_4 : decode (am_Mof y_Te_add).1 4 = .ok (.sipush 200, 3) := by decide +kernel
theorem d_Te_add_7 : decode (am_Mof y_Te_add).1 7 = .ok (.if_icmp .lt 5, 3) := by decide +kernel
theorem d_Te_add_10 : decode (am_Mof y_Te_add).1 10 = .ok (.iconst 0, 1) := by decide +kernel
theorem d_Te_add_11 : decode (am_Mof y_Te_add).1 11 = .ok (.ireturn, 1) := by decide +kernel
theorem d_Te_add_12 : decode (am_Mof y_Te_add).1 12 = .ok (.aload_n 0, 1) := by decide +kernel
theorem d_Te_add_13 : decode (am_Mof y_Te_add).1 13 = .ok (.getfield 9, 3) := by decide +kernel
theorem d_Te_add_16 : decode (am_Mof y_Te_add).1 16 = .ok (.aload_n 0, 1) := by decide +kernel
theorem d_Te_add_17 : decode (am_Mof y_Te_add).1 17 = .ok (.getfield 15, 3) := by decide +kernel
theorem d_Te_add_20 : decode (am_Mof y_Te_add).1 20 = .ok (.iload_n 1, 1) := by decide +kernel
theorem d_Te_add_21 : decode (am_Mof y_Te_add).1 21 = .ok (.iastore, 1) := by decide +kernel
theorem d_Te_add_22 : decode (am_Mof y_Te_add).1 22 = .ok (.aload_n 0, 1) := by decide +kernel
theorem d_Te_add_23 : decode (am_Mof y_Te_add).1 23 = .ok (.dup, 1) := by decide +kernel
theorem d_Te_add_24 : decode (am_Mof y_Te_add).1 24 = .ok (.getfield 15, 3) := by decide +kernel
theorem d_Te_add_27 : decode (am_Mof y_Te_add).1 27 = .ok (.iconst 1, 1) := by decide +kernel
theorem d_Te_add_28 : decode (am_Mof y_Te_add).1 28 = .ok (.iadd, 1) := by decide +kernel
theorem d_Te_add_29 : decode (am_Mof y_Te_add).1 29 = .ok (.putfield 15, 3) := by decide +kernel
theorem d_Te_add_32 : decode (am_Mof y_Te_add).1 32 = .ok (.iconst 1, 1) := by decide +kernel
theorem d_Te_add_33 : decode (am_Mof y_Te_add).1 33 = .ok (.ireturn, 1) := by decide +kernel
theorem d_Te_filledAt_0 : decode (am_Mof y_Te_filledAt).1 0 = .ok (.iload_n 1, 1) := by decide +kernel
theorem d_Te_filledAt_1 : decode (am_Mof y_Te_filledAt).1 1 = .ok (.istore_n 3, 1) := by decide +kernel
theorem d_Te_filledAt_2 : decode (am_Mof y_Te_filledAt).1 2 = .ok (.iconst 0, 1) := by decide +kernel
theorem d_Te_filledAt_3 : decode (am_Mof y_Te_filledAt).1 3 = .ok (.istore 4, 2) := by decide +kernel
theorem d_Te_filledAt_5 : decode (am_Mof y_Te_filledAt).1 5 = .ok (.iload 4, 2) := by decide +kernel
theorem d_Te_filledAt_7 : decode (am_Mof y_Te_filledAt).1 7 = .ok (.aload_n 0, 1) := by decide +kernel
theorem d_Te_filledAt_8 : decode (am_Mof y_Te_filledAt).1 8 = .ok (.getfield 15, 3) := by decide +kernel
theorem d_Te_filledAt_11 : decode (am_Mof y_Te_filledAt).1 11 = .ok (.if_icmp .ge 87, 3) := by decide +kernel
theorem d_Te_filledAt_14 : decode (am_Mof y_Te_filledAt).1 14 = .ok (.aload_n 0, 1) := by decide +kernel
theorem d_Te_filledAt_15 : decode (am_Mof y_Te_filledAt).1 15 = .ok (.iload 4, 2) := by decide +kernel
theorem d_Te_filledAt_17 : decode (am_Mof y_Te_filledAt).1 17 = .ok (.invokevirtual 19, 3) := by decide +kernel
theorem d_Te_filledAt_20 : decode (am_Mof y_Te_filledAt).1 20 = .ok (.istore 5, 2) := by decide +kernel
theorem d_Te_filledAt_22 : decode (am_Mof y_Te_filledAt).1 22 = .ok (.iload 5, 2) := by decide +kernel
theorem d_Te_filledAt_24 : decode (am_Mof y_Te_filledAt).1 24 = .ok (.ifCond .eq 13, 3) := by decide +kernel
theorem d_Te_filledAt_27 : decode (am_Mof y_Te_filledAt).1 27 = .ok (.aload_n 0, 1) := by decide +kernel
theorem d_Te_filledAt_28 : decode (am_Mof y_Te_filledAt).1 28 = .ok (.iload 4, 2) := by decide +kernel
theorem d_Te_filledAt_30 : decode (am_Mof y_Te_filledAt).1 30 = .ok (.aload_n 2, 1) := by decide +kernel
theorem d_Te_filledAt_31 : decode (am_Mof y_Te_filledAt).1 31 = .ok (.invokevirtual 23, 3) := by decide +kernel
theorem d_Te_filledAt_34 : decode (am_Mof y_Te_filledAt).1 34 = .ok (.goto 4, 3) := by decide +kernel
theorem d_Te_filledAt_37 : decode (am_Mof y_Te_filledAt).1 37 = .ok (.iconst 1, 1) := by decide +kernel
theorem d_Te_filledAt_38 : decode (am_Mof y_Te_filledAt).1 38 = .ok (.istore 6, 2) := by decide +kernel
theorem d_Te_filledAt_40 : decode (am_Mof y_Te_filledAt).1 40 = .ok (.iload_n 3, 1) := by decide +kernel
theorem d_Te_filledAt_41 : decode (am_Mof y_Te_filledAt).1 41 = .ok (.iload 6, 2) := by decide +kernel
theorem d_Te_filledAt_43 : decode (am_Mof y_Te_filledAt).1 43 = .ok (.if_icmp .ge 32, 3) := by decide +kernel
theorem d_Te_filledAt_46 : decode (am_Mof y_Te_filledAt).1 46 = .ok (.iload 5, 2) := by decide +kernel
theorem d_Te_filledAt_48 : decode (am_Mof y_Te_filledAt).1 48 = .ok (.ifCond .eq 19, 3) := by decide +kernel
theorem d_Te_filledAt_51 : decode (am_Mof y_Te_filledAt).1 51 = .ok (.aload_n 0, 1) := by decide +kernel
theorem d_Te_filledAt_52 : decode (am_Mof y_Te_filledAt).1 52 = .ok (.iload 4, 2) := by decide +kernel
theorem d_Te_filledAt_54 : decode (am_Mof y_Te_filledAt).1 54 = .ok (.iload 6, 2) := by decide +kernel
theorem d_Te_filledAt_56 : decode (am_Mof y_Te_filledAt).1 56 = .ok (.iconst 1, 1) := by decide +kernel
theorem d_Te_filledAt_57 : decode (am_Mof y_Te_filledAt).1 57 = .ok (.isub, 1) := by decide +kernel
theorem d_Te_filledAt_58 : decode (am_Mof y_Te_filledAt).1 58 = .ok (.iload_n 3, 1) := by decide +kernel
theorem d_Te_filledAt_59 : decode (am_Mof y_Te_filledAt).1 59 = .ok (.isub, 1) := by decide +kernel
theorem d_Te_filledAt_60 : decode (am_Mof y_Te_filledAt).1 60 = .ok (.aload_n 2, 1) := by decide +kernel
theorem d_Te_filledAt_61 : decode (am_Mof y_Te_filledAt).1 61 = .ok (.invokevirtual 27, 3) := by decide +kernel
theorem d_Te_filledAt_64 : decode (am_Mof y_Te_filledAt).1 64 = .ok (.goto 10, 3) := by decide +kernel
theorem d_Te_filledAt_67 : decode (am_Mof y_Te_filledAt).1 67 = .ok (.aload_n 0, 1) := by decide +kernel
theorem d_Te_filledAt_68 : decode (am_Mof y_Te_filledAt).1 68 = .ok (.getfield 9, 3) := by decide +kernel
theorem d_Te_filledAt_71 : decode (am_Mof y_Te_filledAt).1 71 = .ok (.iload 4, 2) := by decide +kernel
theorem d_Te_filledAt_73 : decode (am_Mof y_Te_filledAt).1 73 = .ok (.iaload, 1) := by decide +kernel
theorem d_Te_filledAt_74 : decode (am_Mof y_Te_filledAt).1 74 = .ok (.ireturn, 1) := by decide +kernel
theorem d_Te_filledAt_75 : decode (am_Mof y_Te_filledAt).1 75 = .ok (.iload_n 3, 1) := by decide +kernel
theorem d_Te_filledAt_76 : decode (am_Mof y_Te_filledAt).1 76 = .ok (.iload 6, 2) := by decide +kernel
theorem d_Te_filledAt_78 : decode (am_Mof y_Te_filledAt).1 78 = .ok (.isub, 1) := by decide +kernel
theorem d_Te_filledAt_79 : decode (am_Mof y_Te_filledAt).1 79 = .ok (.istore_n 3, 1) := by decide +kernel
theorem d_Te_filledAt_80 : decode (am_Mof y_Te_filledAt).1 80 = .ok (.iload 4, 2) := by decide +kernel
theorem d_Te_filledAt_82 : decode (am_Mof y_Te_filledAt).1 82 = .ok (.iload 5, 2) := by decide +kernel
theorem d_Te_filledAt_84 : decode (am_Mof y_Te_filledAt).1 84 = .ok (.ifCond .eq 7, 3) := by decide +kernel
theorem d_Te_filledAt_87 : decode (am_Mof y_Te_filledAt).1 87 = .ok (.iconst 3, 1) := by decide +kernel
theorem d_Te_filledAt_88 : decode (am_Mof y_Te_filledAt).1 88 = .ok (.goto 4, 3) := by decide +kernel
theorem d_Te_filledAt_91 : decode (am_Mof y_Te_filledAt).1 91 = .ok (.iconst 1, 1) := by decide +kernel
theorem d_Te_filledAt_92 : decode (am_Mof y_Te_filledAt).1 92 = .ok (.iadd, 1) := by decide +kernel
theorem d_Te_filledAt_93 : decode (am_Mof y_Te_filledAt).1 93 = .ok (.istore 4, 2) := by decide +kernel
theorem d_Te_filledAt_95 : decode (am_Mof y_Te_filledAt).1 95 = .ok (.goto (-90), 3) := by decide +kernel
theorem d_Te_filledAt_98 : decode (am_Mof y_Te_filledAt).1 98 = .ok (.iconst (-1), 1) := by decide +kernel
theorem d_Te_filledAt_99 : decode (am_Mof y_Te_filledAt).1 99 = .ok (.ireturn, 1) := by decide +kernel
theorem d_Te_isMark_0 : decode (am_Mof y_Te_isMark).1 0 = .ok (.iload_n 1, 1) := by decide +kernel
theorem d_Te_isMark_1 : decode (am_Mof y_Te_isMark).1 1 = .ok (.iconst 2, 1) := by decide +kernel
theorem d_Te_isMark_2 : decode (am_Mof y_Te_isMark).1 2 = .ok (.iadd, 1) := by decide +kernel
theorem d_Te_isMark_3 : decode (am_Mof y_Te_isMark).1 3 = .ok (.aload_n 0, 1) := by decide +kernel
theorem d_Te_isMark_4 : decode (am_Mof y_Te_isMark).1 4 = .ok (.getfield 15, 3) := by decide +kernel
theorem d_Te_isMark_7 : decode (am_Mof y_Te_isMark).1 7 = .ok (.if_icmp .ge 52, 3) := by decide +kernel
theorem d_Te_isMark_10 : decode (am_Mof y_Te_isMark).1 10 = .ok (.aload_n 0, 1) := by decide +kernel
theorem d_Te_isMark_11 : decode (am_Mof y_Te_isMark).1 11 = .ok (.getfield 9, 3) := by decide +kernel
theorem d_Te_isMark_14 : decode (am_Mof y_Te_isMark).1 14 = .ok (.iload_n 1, 1) := by decide +kernel
theorem d_Te_isMark_15 : decode (am_Mof y_Te_isMark).1 15 = .ok (.iaload, 1) := by decide +kernel
theorem d_Te_isMark_16 : decode (am_Mof y_Te_isMark).1 16 = .ok (.bipush 35, 2) := by decide +kernel
theorem d_Te_isMark_18 : decode (am_Mof y_Te_isMark).1 18 = .ok (.if_icmp .ne 41, 3) := by decide +kernel
theorem d_Te_isMark_21 : decode (am_Mof y_Te_isMark).1 21 = .ok (.aload_n 0, 1) := by decide +kernel
theorem d_Te_isMark_22 : decode (am_Mof y_Te_isMark).1 22 = .ok (.getfield 9, 3) := by decide +kernel
theorem d_Te_isMark_25 : decode (am_Mof y_Te_isMark).1 25 = .ok (.iload_n 1, 1) := by decide +kernel
theorem d_Te_isMark_26 : decode (am_Mof y_Te_isMark).1 26 = .ok (.iconst 1, 1) := by decide +kernel
theorem d_Te_isMark_27 : decode (am_Mof y_Te_isMark).1 27 = .ok (.iadd, 1) := by decide +kernel
theorem d_Te_isMark_28 : decode (am_Mof y_Te_isMark).1 28 = .ok (.iaload, 1) := by decide +kernel
theorem d_Te_isMark_29 : decode (am_Mof y_Te_isMark).1 29 = .ok (.bipush 48, 2) := by decide +kernel
theorem d_Te_isMark_31 : decode (am_Mof y_Te_isMark).1 31 = .ok (.isub, 1) := by decide +kernel
theorem d_Te_isMark_32 : decode (am_Mof y_Te_isMark).1 32 = .ok (.invokestatic 31, 3) := by decide +kernel
theorem d_Te_isMark_35 : decode (am_Mof y_Te_isMark).1 35 = .ok (.ifCond .eq 24, 3) := by decide +kernel
theorem d_Te_isMark_38 : decode (am_Mof y_Te_isMark).1 38 = .ok (.aload_n 0, 1) := by decide +kernel
theorem d_Te_isMark_39 : decode (am_Mof y_Te_isMark).1 39 = .ok (.getfield 9, 3) := by decide +kernel
theorem d_Te_isMark_42 : decode (am_Mof y_Te_isMark).1 42 = .ok (.iload_n 1, 1) := by decide +kernel
theorem d_Te_isMark_43 : decode (am_Mof y_Te_isMark).1 43 = .ok (.iconst 2, 1) := by decide +kernel
theorem d_Te_isMark_44 : decode (am_Mof y_Te_isMark).1 44 = .ok (.iadd, 1) := by decide +kernel
theorem d_Te_isMark_45 : decode (am_Mof y_Te_isMark).1 45 = .ok (.iaload, 1) := by decide +kernel
theorem d_Te_isMark_46 : decode (am_Mof y_Te_isMark).1 46 = .ok (.bipush 48, 2) := by decide +kernel
theorem d_Te_isMark_48 : decode (am_Mof y_Te_isMark).1 48 = .ok (.isub, 1) := by decide +kernel
theorem d_Te_isMark_49 : decode (am_Mof y_Te_isMark).1 49 = .ok (.invokestatic 34, 3) := by decide +kernel
theorem d_Te_isMark_52 : decode (am_Mof y_Te_isMark).1 52 = .ok (.ifCond .eq 7, 3) := by decide +kernel
theorem d_Te_isMark_55 : decode (am_Mof y_Te_isMark).1 55 = .ok (.iconst 1, 1) := by decide +kernel
theorem d_Te_isMark_56 : decode (am_Mof y_Te_isMark).1 56 = .ok (.goto 4, 3) := by decide +kernel
theorem d_Te_isMark_59 : decode (am_Mof y_Te_isMark).1 59 = .ok (.iconst 0, 1) := by decide +kernel
theorem d_Te_isMark_60 : decode (am_Mof y_Te_isMark).1 60 = .ok (.ireturn, 1) := by decide +kernel
theorem d_Te_widthOf_0 : decode (am_Mof y_Te_widthOf).1 0 = .ok (.aload_n 2, 1) := by decide +kernel
theorem d_Te_widthOf_1 : decode (am_Mof y_Te_widthOf).1 1 = .ok (.invokevirtual 43, 3) := by decide +kernel
theorem d_Te_widthOf_4 : decode (am_Mof y_Te_widthOf).1 4 = .ok (.ifCond .ne 5, 3) := by decide +kernel
theorem d_Te_widthOf_7 : decode (am_Mof y_Te_widthOf).1 7 = .ok (.iconst 1, 1) := by decide +kernel
theorem d_Te_widthOf_8 : decode (am_Mof y_Te_widthOf).1 8 = .ok (.ireturn, 1) := by decide +kernel
theorem d_Te_widthOf_9 : decode (am_Mof y_Te_widthOf).1 9 = .ok (.aload_n 0, 1) := by decide +kernel
theorem d_Te_widthOf_10 : decode (am_Mof y_Te_widthOf).1 10 = .ok (.iload_n 1, 1) := by decide +kernel
theorem d_Te_widthOf_11 : decode (am_Mof y_Te_widthOf).1 11 = .ok (.aload_n 2, 1) := by decide +kernel
theorem d_Te_widthOf_12 : decode (am_Mof y_Te_widthOf).1 12 = .ok (.invokevirtual 47, 3) := by decide +kernel
theorem d_Te_widthOf_15 : decode (am_Mof y_Te_widthOf).1 15 = .ok (.lstore_n 3, 1) := by decide +kernel
theorem d_Te_widthOf_16 : decode (am_Mof y_Te_widthOf).1 16 = .ok (.iconst 1, 1) := by decide +kernel
theorem d_Te_widthOf_17 : decode (am_Mof y_Te_widthOf).1 17 = .ok (.istore 5, 2) := by decide +kernel
theorem d_Te_widthOf_19 : decode (am_Mof y_Te_widthOf).1 19 = .ok (.lload_n 3, 1) := by decide +kernel
theorem d_Te_widthOf_20 : decode (am_Mof y_Te_widthOf).1 20 = .ok (.ldc2_w 51, 3) := by decide +kernel
theorem d_Te_widthOf_23 : decode (am_Mof y_Te_widthOf).1 23 = .ok (.lcmp, 1) := by decide +kernel
theorem d_Te_widthOf_24 : decode (am_Mof y_Te_widthOf).1 24 = .ok (.ifCond .lt 22, 3) := by decide +kernel
theorem d_Te_widthOf_27 : decode (am_Mof y_Te_widthOf).1 27 = .ok (.iload 5, 2) := by decide +kernel
theorem d_Te_widthOf_29 : decode (am_Mof y_Te_widthOf).1 29 = .ok (.bipush 19, 2) := by decide +kernel
theorem d_Te_widthOf_31 : decode (am_Mof y_Te_widthOf).1 31 = .ok (.if_icmp .ge 15, 3) := by decide +kernel
theorem d_Te_widthOf_34 : decode (am_Mof y_Te_widthOf).1 34 = .ok (.lload_n 3, 1) := by decide +kernel
theorem d_Te_widthOf_35 : decode (am_Mof y_Te_widthOf).1 35 = .ok (.ldc2_w 51, 3) := by decide +kernel
theorem d_Te_widthOf_38 : decode (am_Mof y_Te_widthOf).1 38 = .ok (.ldiv, 1) := by decide +kernel
theorem d_Te_widthOf_39 : decode (am_Mof y_Te_widthOf).1 39 = .ok (.lstore_n 3, 1) := by decide +kernel
theorem d_Te_widthOf_40 : decode (am_Mof y_Te_widthOf).1 40 = .ok (.iinc 5 1, 3) := by decide +kernel
theorem d_Te_widthOf_43 : decode (am_Mof y_Te_widthOf).1 43 = .ok (.goto (-24), 3) := by decide +kernel
theorem d_Te_widthOf_46 : decode (am_Mof y_Te_widthOf).1 46 = .ok (.iload 5, 2) := by decide +kernel
theorem d_Te_widthOf_48 : decode (am_Mof y_Te_widthOf).1 48 = .ok (.ireturn, 1) := by decide +kernel
theorem d_Te_numberOf_0 : decode (am_Mof y_Te_numberOf).1 0 = .ok (.aload_n 2, 1) := by decide +kernel
theorem d_Te_numberOf_1 : decode (am_Mof y_Te_numberOf).1 1 = .ok (.aload_n 0, 1) := by decide +kernel
theorem d_Te_numberOf_2 : decode (am_Mof y_Te_numberOf).1 2 = .ok (.getfield 9, 3) := by decide +kernel
theorem d_Te_numberOf_5 : decode (am_Mof y_Te_numberOf).1 5 = .ok (.iload_n 1, 1) := by decide +kernel
theorem d_Te_numberOf_6 : decode (am_Mof y_Te_numberOf).1 6 = .ok (.iconst 1, 1) := by decide +kernel
theorem d_Te_numberOf_7 : decode (am_Mof y_Te_numberOf).1 7 = .ok (.iadd, 1) := by decide +kernel
theorem d_Te_numberOf_8 : decode (am_Mof y_Te_numberOf).1 8 = .ok (.iaload, 1) := by decide +kernel
theorem d_Te_numberOf_9 : decode (am_Mof y_Te_numberOf).1 9 = .ok (.bipush 48, 2) := by decide +kernel
theorem d_Te_numberOf_11 : decode (am_Mof y_Te_numberOf).1 11 = .ok (.isub, 1) := by decide +kernel
theorem d_Te_numberOf_12 : decode (am_Mof y_Te_numberOf).1 12 = .ok (.aload_n 0, 1) := by decide +kernel
theorem d_Te_numberOf_13 : decode (am_Mof y_Te_numberOf).1 13 = .ok (.getfield 9, 3) := by decide +kernel
theorem d_Te_numberOf_16 : decode (am_Mof y_Te_numberOf).1 16 = .ok (.iload_n 1, 1) := by decide +kernel
theorem d_Te_numberOf_17 : decode (am_Mof y_Te_numberOf).1 17 = .ok (.iconst 2, 1) := by decide +kernel
theorem d_Te_numberOf_18 : decode (am_Mof y_Te_numberOf).1 18 = .ok (.iadd, 1) := by decide +kernel
theorem d_Te_numberOf_19 : decode (am_Mof y_Te_numberOf).1 19 = .ok (.iaload, 1) := by decide +kernel
theorem d_Te_numberOf_20 : decode (am_Mof y_Te_numberOf).1 20 = .ok (.bipush 48, 2) := by decide +kernel
theorem d_Te_numberOf_22 : decode (am_Mof y_Te_numberOf).1 22 = .ok (.isub, 1) := by decide +kernel
theorem d_Te_numberOf_23 : decode (am_Mof y_Te_numberOf).1 23 = .ok (.invokevirtual 37, 3) := by decide +kernel
theorem d_Te_numberOf_26 : decode (am_Mof y_Te_numberOf).1 26 = .ok (.lreturn, 1) := by decide +kernel
theorem d_Te_numberByte_0 : decode (am_Mof y_Te_numberByte).1 0 = .ok (.aload_n 3, 1) := by decide +kernel
theorem d_Te_numberByte_1 : decode (am_Mof y_Te_numberByte).1 1 = .ok (.invokevirtual 43, 3) := by decide +kernel
theorem d_Te_numberByte_4 : decode (am_Mof y_Te_numberByte).1 4 = .ok (.ifCond .ne 6, 3) := by decide +kernel
theorem d_Te_numberByte_7 : decode (am_Mof y_Te_numberByte).1 7 = .ok (.bipush 45, 2) := by decide +kernel
theorem d_Te_numberByte_9 : decode (am_Mof y_Te_numberByte).1 9 = .ok (.ireturn, 1) := by decide +kernel
theorem d_Te_numberByte_10 : decode (am_Mof y_Te_numberByte).1 10 = .ok (.aload_n 0, 1) := by decide +kernel
theorem d_Te_numberByte_11 : decode (am_Mof y_Te_numberByte).1 11 = .ok (.iload_n 1, 1) := by decide +kernel
theorem d_Te_numberByte_12 : decode (am_Mof y_Te_numberByte).1 12 = .ok (.aload_n 3, 1) := by decide +kernel
theorem d_Te_numberByte_13 : decode (am_Mof y_Te_numberByte).1 13 = .ok (.invokevirtual 47, 3) := by decide +kernel
theorem d_Te_numberByte_16 : decode (am_Mof y_Te_numberByte).1 16 = .ok (.lstore 4, 2) := by decide +kernel
theorem d_Te_numberByte_18 : decode (am_Mof y_Te_numberByte).1 18 = .ok (.iconst 0, 1) := by decide +kernel
theorem d_Te_numberByte_19 : decode (am_Mof y_Te_numberByte).1 19 = .ok (.istore 6, 2) := by decide +kernel
theorem d_Te_numberByte_21 : decode (am_Mof y_Te_numberByte).1 21 = .ok (.iload 6, 2) := by decide +kernel
theorem d_Te_numberByte_23 : decode (am_Mof y_Te_numberByte).1 23 = .ok (.iload_n 2, 1) := by decide +kernel
theorem d_Te_numberByte_24 : decode (am_Mof y_Te_numberByte).1 24 = .ok (.if_icmp .ge 17, 3) := by decide +kernel
theorem d_Te_numberByte_27 : decode (am_Mof y_Te_numberByte).1 27 = .ok (.lload 4, 2) := by decide +kernel
theorem d_Te_numberByte_29 : decode (am_Mof y_Te_numberByte).1 29 = .ok (.ldc2_w 51, 3) := by decide +kernel
theorem d_Te_numberByte_32 : decode (am_Mof y_Te_numberByte).1 32 = .ok (.ldiv, 1) := by decide +kernel
theorem d_Te_numberByte_33 : decode (am_Mof y_Te_numberByte).1 33 = .ok (.lstore 4, 2) := by decide +kernel
theorem d_Te_numberByte_35 : decode (am_Mof y_Te_numberByte).1 35 = .ok (.iinc 6 1, 3) := by decide +kernel
theorem d_Te_numberByte_38 : decode (am_Mof y_Te_numberByte).1 38 = .ok (.goto (-17), 3) := by decide +kernel
theorem d_Te_numberByte_41 : decode (am_Mof y_Te_numberByte).1 41 = .ok (.bipush 48, 2) := by decide +kernel
theorem d_Te_numberByte_43 : decode (am_Mof y_Te_numberByte).1 43 = .ok (.lload 4, 2) := by decide +kernel
theorem d_Te_numberByte_45 : decode (am_Mof y_Te_numberByte).1 45 = .ok (.ldc2_w 51, 3) := by decide +kernel
theorem d_Te_numberByte_48 : decode (am_Mof y_Te_numberByte).1 48 = .ok (.lrem, 1) := by decide +kernel
theorem d_Te_numberByte_49 : decode (am_Mof y_Te_numberByte).1 49 = .ok (.l2i, 1) := by decide +kernel
theorem d_Te_numberByte_50 : decode (am_Mof y_Te_numberByte).1 50 = .ok (.iadd, 1) := by decide +kernel
theorem d_Te_numberByte_51 : decode (am_Mof y_Te_numberByte).1 51 = .ok (.ireturn, 1) := by decide +kernel
theorem d_Wo_init_0 : decode (am_Mof y_Wo_init).1 0 = .ok (.aload_n 0, 1) := by decide +kernel
theorem d_Wo_init_1 : decode (am_Mof y_Wo_init).1 1 = .ok (.invokespecial 3, 3) := by decide +kernel
theorem d_Wo_init_4 : decode (am_Mof y_Wo_init).1 4 = .ok (.aload_n 0, 1) := by decide +kernel
theorem d_Wo_init_5 : decode (am_Mof y_Wo_init).1 5 = .ok (.iconst 5, 1) := by decide +kernel
theorem d_Wo_init_6 : decode (am_Mof y_Wo_init).1 6 = .ok (.bipush 6, 2) := by decide +kernel
theorem d_Wo_init_8 : decode (am_Mof y_Wo_init).1 8 = .ok (.multianewarray 9 2, 4) := by decide +kernel
theorem d_Wo_init_12 : decode (am_Mof y_Wo_init).1 12 = .ok (.putfield 11, 3) := by decide +kernel
theorem d_Wo_init_15 : decode (am_Mof y_Wo_init).1 15 = .ok (.return_, 1) := by decide +kernel
theorem d_Wo_find_0 : decode (am_Mof y_Wo_find).1 0 = .ok (.aload_n 0, 1) := by decide +kernel
theorem d_Wo_find_1 : decode (am_Mof y_Wo_find).1 1 = .ok (.aload_n 1, 1) := by decide +kernel
theorem d_Wo_find_2 : decode (am_Mof y_Wo_find).1 2 = .ok (.iload_n 2, 1) := by decide +kernel
theorem d_Wo_find_3 : decode (am_Mof y_Wo_find).1 3 = .ok (.invokevirtual 16, 3) := by decide +kernel
theorem d_Wo_find_6 : decode (am_Mof y_Wo_find).1 6 = .ok (.lconst 1, 1) := by decide +kernel
theorem d_Wo_find_7 : decode (am_Mof y_Wo_find).1 7 = .ok (.lstore_n 3, 1) := by decide +kernel
theorem d_Wo_find_8 : decode (am_Mof y_Wo_find).1 8 = .ok (.iconst 0, 1) := by decide +kernel
theorem d_Wo_find_9 : decode (am_Mof y_Wo_find).1 9 = .ok (.istore 5, 2) := by decide +kernel
theorem d_Wo_find_11 : decode (am_Mof y_Wo_find).1 11 = .ok (.iload 5, 2) := by decide +kernel
theorem d_Wo_find_13 : decode (am_Mof y_Wo_find).1 13 = .ok (.iconst 5, 1) := by decide +kernel
theorem d_Wo_find_14 : decode (am_Mof y_Wo_find).1 14 = .ok (.if_icmp .ge 40, 3) := by decide +kernel
theorem d_Wo_find_17 : decode (am_Mof y_Wo_find).1 17 = .ok (.aload_n 0, 1) := by decide +kernel
theorem d_Wo_find_18 : decode (am_Mof y_Wo_find).1 18 = .ok (.getfield 11, 3) := by decide +kernel
theorem d_Wo_find_21 : decode (am_Mof y_Wo_find).1 21 = .ok (.iload 5, 2) := by decide +kernel
theorem d_Wo_find_23 : decode (am_Mof y_Wo_find).1 23 = .ok (.aaload, 1) := by decide +kernel
theorem d_Wo_find_24 : decode (am_Mof y_Wo_find).1 24 = .ok (.iload 5, 2) := by decide +kernel
theorem d_Wo_find_26 : decode (am_Mof y_Wo_find).1 26 = .ok (.laload, 1) := by decide +kernel
theorem d_Wo_find_27 : decode (am_Mof y_Wo_find).1 27 = .ok (.lstore 6, 2) := by decide +kernel
theorem d_Wo_find_29 : decode (am_Mof y_Wo_find).1 29 = .ok (.lload 6, 2) := by decide +kernel
theorem d_Wo_find_31 : decode (am_Mof y_Wo_find).1 31 = .ok (.lconst 0, 1) := by decide +kernel
theorem d_Wo_find_32 : decode (am_Mof y_Wo_find).1 32 = .ok (.lcmp, 1) := by decide +kernel
theorem d_Wo_find_33 : decode (am_Mof y_Wo_find).1 33 = .ok (.ifCond .ne 5, 3) := by decide +kernel
theorem d_Wo_find_36 : decode (am_Mof y_Wo_find).1 36 = .ok (.lconst 0, 1) := by decide +kernel
theorem d_Wo_find_37 : decode (am_Mof y_Wo_find).1 37 = .ok (.lreturn, 1) := by decide +kernel
theorem d_Wo_find_38 : decode (am_Mof y_Wo_find).1 38 = .ok (.aload_n 0, 1) := by decide +kernel
theorem d_Wo_find_39 : decode (am_Mof y_Wo_find).1 39 = .ok (.iload 5, 2) := by decide +kernel
theorem d_Wo_find_41 : decode (am_Mof y_Wo_find).1 41 = .ok (.lload_n 3, 1) := by decide +kernel
theorem d_Wo_find_42 : decode (am_Mof y_Wo_find).1 42 = .ok (.invokevirtual 20, 3) := by decide +kernel
theorem d_Wo_find_45 : decode (am_Mof y_Wo_find).1 45 = .ok (.lload 6, 2) := by decide +kernel
theorem d_Wo_find_47 : decode (am_Mof y_Wo_find).1 47 = .ok (.lstore_n 3, 1) := by decide +kernel
theorem d_Wo_find_48 : decode (am_Mof y_Wo_find).1 48 = .ok (.iinc 5 1, 3) := by decide +kernel
theorem d_Wo_find_51 : decode (am_Mof y_Wo_find).1 51 = .ok (.goto (-40), 3) := by decide +kernel
theorem d_Wo_find_54 : decode (am_Mof y_Wo_find).1 54 = .ok (.lload_n 3, 1) := by decide +kernel
theorem d_Wo_find_55 : decode (am_Mof y_Wo_find).1 55 = .ok (.lreturn, 1) := by decide +kernel
theorem d_Wo_fill_0 : decode (am_Mof y_Wo_fill).1 0 = .ok (.iconst 0, 1) := by decide +kernel
theorem d_Wo_fill_1 : decode (am_Mof y_Wo_fill).1 1 = .ok (.istore_n 3, 1) := by decide +kernel
theorem d_Wo_fill_2 : decode (am_Mof y_Wo_fill).1 2 = .ok (.iload_n 3, 1) := by decide +kernel
theorem d_Wo_fill_3 : decode (am_Mof y_Wo_fill).1 3 = .ok (.iconst 5, 1) := by decide +kernel
theorem d_Wo_fill_4 : decode (am_Mof y_Wo_fill).1 4 = .ok (.if_icmp .ge 97, 3) := by decide +kernel
theorem d_Wo_fill_7 : decode (am_Mof y_Wo_fill).1 7 = .ok (.aload_n 1, 1) := by decide +kernel
theorem d_Wo_fill_8 : decode (am_Mof y_Wo_fill).1 8 = .ok (.iload_n 3, 1) := by decide +kernel
theorem d_Wo_fill_9 : decode (am_Mof y_Wo_fill).1 9 = .ok (.iload_n 2, 1) := by decide +kernel
theorem d_Wo_fill_10 : decode (am_Mof y_Wo_fill).1 10 = .ok (.invokevirtual 24, 3) := by decide +kernel
theorem d_Wo_fill_13 : decode (am_Mof y_Wo_fill).1 13 = .ok (.istore 4, 2) := by decide +kernel
theorem d_Wo_fill_15 : decode (am_Mof y_Wo_fill).1 15 = .ok (.iconst 0, 1) := by decide +kernel
theorem d_Wo_fill_16 : decode (am_Mof y_Wo_fill).1 16 = .ok (.istore 5, 2) := by decide +kernel
theorem d_Wo_fill_18 : decode (am_Mof y_Wo_fill).1 18 = .ok (.iload 5, 2) := by decide +kernel
theorem d_Wo_fill_20 : decode (am_Mof y_Wo_fill).1 20 = .ok (.iconst 5, 1) := by decide +kernel
theorem d_Wo_fill_21 : decode (am_Mof y_Wo_fill).1 21 = .ok (.if_icmp .ge 36, 3) := by decide +kernel
theorem d_Wo_fill_24 : decode (am_Mof y_Wo_fill).1 24 = .ok (.aload_n 0, 1) := by decide +kernel
theorem d_Wo_fill_25 : decode (am_Mof y_Wo_fill).1 25 = .ok (.getfield 11, 3) := by decide +kernel
theorem d_Wo_fill_28 : decode (am_Mof y_Wo_fill).1 28 = .ok (.iload_n 3, 1) := by decide +kernel
theorem d_Wo_fill_29 : decode (am_Mof y_Wo_fill).1 29 = .ok (.aaload, 1) := by decide +kernel
theorem d_Wo_fill_30 : decode (am_Mof y_Wo_fill).1 30 = .ok (.iload 5, 2) := by decide +kernel
theorem d_Wo_fill_32 : decode (am_Mof y_Wo_fill).1 32 = .ok (.iload 4, 2) := by decide +kernel
theorem d_Wo_fill_34 : decode (am_Mof y_Wo_fill).1 34 = .ok (.ifCond .eq 15, 3) := by decide +kernel
theorem d_Wo_fill_37 : decode (am_Mof y_Wo_fill).1 37 = .ok (.aload_n 1, 1) := by decide +kernel
theorem d_Wo_fill_38 : decode (am_Mof y_Wo_fill).1 38 = .ok (.iload_n 3, 1) := by decide +kernel
theorem d_Wo_fill_39 : decode (am_Mof y_Wo_fill).1 39 = .ok (.iload 5, 2) := by decide +kernel
theorem d_Wo_fill_41 : decode (am_Mof y_Wo_fill).1 41 = .ok (.invokevirtual 30, 3) := by decide +kernel
theorem d_Wo_fill_44 : decode (am_Mof y_Wo_fill).1 44 = .ok (.ineg, 1) := by decide +kernel
theorem d_Wo_fill_45 : decode (am_Mof y_Wo_fill).1 45 = .ok (.i2l, 1) := by decide +kernel
theorem d_Wo_fill_46 : decode (am_Mof y_Wo_fill).1 46 = .ok (.goto 4, 3) := by decide +kernel
theorem d_Wo_fill_49 : decode (am_Mof y_Wo_fill).1 49 = .ok (.lconst 0, 1) := by decide +kernel
theorem d_Wo_fill_50 : decode (am_Mof y_Wo_fill).1 50 = .ok (.lastore, 1) := by decide +kernel
theorem d_Wo_fill_51 : decode (am_Mof y_Wo_fill).1 51 = .ok (.iinc 5 1, 3) := by decide +kernel
theorem d_Wo_fill_54 : decode (am_Mof y_Wo_fill).1 54 = .ok (.goto (-36), 3) := by decide +kernel
theorem d_Wo_fill_57 : decode (am_Mof y_Wo_fill).1 57 = .ok (.aload_n 0, 1) := by decide +kernel
theorem d_Wo_fill_58 : decode (am_Mof y_Wo_fill).1 58 = .ok (.getfield 11, 3) := by decide +kernel
theorem d_Wo_fill_61 : decode (am_Mof y_Wo_fill).1 61 = .ok (.iload_n 3, 1) := by decide +kernel
theorem d_Wo_fill_62 : decode (am_Mof y_Wo_fill).1 62 = .ok (.aaload, 1) := by decide +kernel
theorem d_Wo_fill_63 : decode (am_Mof y_Wo_fill).1 63 = .ok (.iload_n 3, 1) := by decide +kernel
theorem d_Wo_fill_64 : decode (am_Mof y_Wo_fill).1 64 = .ok (.dup2, 1) := by decide +kernel
theorem d_Wo_fill_65 : decode (am_Mof y_Wo_fill).1 65 = .ok (.laload, 1) := by decide +kernel
theorem d_Wo_fill_66 : decode (am_Mof y_Wo_fill).1 66 = .ok (.ldc2_w 34, 3) := by decide +kernel
theorem d_Wo_fill_69 : decode (am_Mof y_Wo_fill).1 69 = .ok (.ladd, 1) := by decide +kernel
theorem d_Wo_fill_70 : decode (am_Mof y_Wo_fill).1 70 = .ok (.lastore, 1) := by decide +kernel
theorem d_Wo_fill_71 : decode (am_Mof y_Wo_fill).1 71 = .ok (.aload_n 0, 1) := by decide +kernel
theorem d_Wo_fill_72 : decode (am_Mof y_Wo_fill).1 72 = .ok (.getfield 11, 3) := by decide +kernel
theorem d_Wo_fill_75 : decode (am_Mof y_Wo_fill).1 75 = .ok (.iload_n 3, 1) := by decide +kernel
theorem d_Wo_fill_76 : decode (am_Mof y_Wo_fill).1 76 = .ok (.aaload, 1) := by decide +kernel
theorem d_Wo_fill_77 : decode (am_Mof y_Wo_fill).1 77 = .ok (.iconst 5, 1) := by decide +kernel
theorem d_Wo_fill_78 : decode (am_Mof y_Wo_fill).1 78 = .ok (.iload 4, 2) := by decide +kernel
theorem d_Wo_fill_80 : decode (am_Mof y_Wo_fill).1 80 = .ok (.ifCond .eq 7, 3) := by decide +kernel
theorem d_Wo_fill_83 : decode (am_Mof y_Wo_fill).1 83 = .ok (.lconst 0, 1) := by decide +kernel
theorem d_Wo_fill_84 : decode (am_Mof y_Wo_fill).1 84 = .ok (.goto 10, 3) := by decide +kernel
theorem d_Wo_fill_87 : decode (am_Mof y_Wo_fill).1 87 = .ok (.aload_n 1, 1) := by decide +kernel
theorem d_Wo_fill_88 : decode (am_Mof y_Wo_fill).1 88 = .ok (.iload_n 3, 1) := by decide +kernel
theorem d_Wo_fill_89 : decode (am_Mof y_Wo_fill).1 89 = .ok (.iload_n 2, 1) := by decide +kernel
theorem d_Wo_fill_90 : decode (am_Mof y_Wo_fill).1 90 = .ok (.invokevirtual 36, 3) := by decide +kernel
theorem d_Wo_fill_93 : decode (am_Mof y_Wo_fill).1 93 = .ok (.i2l, 1) := by decide +kernel
theorem d_Wo_fill_94 : decode (am_Mof y_Wo_fill).1 94 = .ok (.lastore, 1) := by decide +kernel
theorem d_Wo_fill_95 : decode (am_Mof y_Wo_fill).1 95 = .ok (.iinc 3 1, 3) := by decide +kernel
theorem d_Wo_fill_98 : decode (am_Mof y_Wo_fill).1 98 = .ok (.goto (-96), 3) := by decide +kernel
theorem d_Wo_fill_101 : decode (am_Mof y_Wo_fill).1 101 = .ok (.return_, 1) := by decide +kernel
theorem d_Wo_clearColumn_0 : decode (am_Mof y_Wo_clearColumn).1 0 = .ok (.iconst 0, 1) := by decide +kernel
theorem d_Wo_clearColumn_1 : decode (am_Mof y_Wo_clearColumn).1 1 = .ok (.istore 4, 2) := by decide +kernel
theorem d_Wo_clearColumn_3 : decode (am_Mof y_Wo_clearColumn).1 3 = .ok (.iload 4, 2) := by decide +kernel
theorem d_Wo_clearColumn_5 : decode (am_Mof y_Wo_clearColumn).1 5 = .ok (.iconst 5, 1) := by decide +kernel
theorem d_Wo_clearColumn_6 : decode (am_Mof y_Wo_clearColumn).1 6 = .ok (.if_icmp .ge 23, 3) := by decide +kernel
theorem d_Wo_clearColumn_9 : decode (am_Mof y_Wo_clearColumn).1 9 = .ok (.iload 4, 2) := by decide +kernel
theorem d_Wo_clearColumn_11 : decode (am_Mof y_Wo_clearColumn).1 11 = .ok (.iload_n 1, 1) := by decide +kernel
theorem d_Wo_clearColumn_12 : decode (am_Mof y_Wo_clearColumn).1 12 = .ok (.if_icmp .eq 11, 3) := by decide +kernel
theorem d_Wo_clearColumn_15 : decode (am_Mof y_Wo_clearColumn).1 15 = .ok (.aload_n 0, 1) := by decide +kernel
theorem d_Wo_clearColumn_16 : decode (am_Mof y_Wo_clearColumn).1 16 = .ok (.iload 4, 2) := by decide +kernel
theorem d_Wo_clearColumn_18 : decode (am_Mof y_Wo_clearColumn).1 18 = .ok (.iload_n 1, 1) := by decide +kernel
theorem d_Wo_clearColumn_19 : decode (am_Mof y_Wo_clearColumn).1 19 = .ok (.lload_n 2, 1) := by decide +kernel
theorem d_Wo_clearColumn_20 : decode (am_Mof y_Wo_clearColumn).1 20 = .ok (.invokevirtual 39, 3) := by decide +kernel
theorem d_Wo_clearColumn_23 : decode (am_Mof y_Wo_clearColumn).1 23 = .ok (.iinc 4 1, 3) := by decide +kernel
theorem d_Wo_clearColumn_26 : decode (am_Mof y_Wo_clearColumn).1 26 = .ok (.goto (-23), 3) := by decide +kernel
theorem d_Wo_clearColumn_29 : decode (am_Mof y_Wo_clearColumn).1 29 = .ok (.return_, 1) := by decide +kernel
theorem d_Wo_clearRow_0 : decode (am_Mof y_Wo_clearRow).1 0 = .ok (.lload_n 3, 1) := by decide +kernel
theorem d_Wo_clearRow_1 : decode (am_Mof y_Wo_clearRow).1 1 = .ok (.lconst 0, 1) := by decide +kernel
theorem d_Wo_clearRow_2 : decode (am_Mof y_Wo_clearRow).1 2 = .ok (.lcmp, 1) := by decide +kernel
theorem d_Wo_clearRow_3 : decode (am_Mof y_Wo_clearRow).1 3 = .ok (.ifCond .ne 4, 3) := by decide +kernel
theorem d_Wo_clearRow_6 : decode (am_Mof y_Wo_clearRow).1 6 = .ok (.return_, 1) := by decide +kernel
theorem d_Wo_clearRow_7 : decode (am_Mof y_Wo_clearRow).1 7 = .ok (.aload_n 0, 1) := by decide +kernel
theorem d_Wo_clearRow_8 : decode (am_Mof y_Wo_clearRow).1 8 = .ok (.getfield 11, 3) := by decide +kernel
theorem d_Wo_clearRow_11 : decode (am_Mof y_Wo_clearRow).1 11 = .ok (.iload_n 2, 1) := by decide +kernel
theorem d_Wo_clearRow_12 : decode (am_Mof y_Wo_clearRow).1 12 = .ok (.aaload, 1) := by decide +kernel
theorem d_Wo_clearRow_13 : decode (am_Mof y_Wo_clearRow).1 13 = .ok (.iload_n 2, 1) := by decide +kernel
theorem d_Wo_clearRow_14 : decode (am_Mof y_Wo_clearRow).1 14 = .ok (.laload, 1) := by decide +kernel
theorem d_Wo_clearRow_15 : decode (am_Mof y_Wo_clearRow).1 15 = .ok (.lstore 5, 2) := by decide +kernel
theorem d_Wo_clearRow_17 : decode (am_Mof y_Wo_clearRow).1 17 = .ok (.aload_n 0, 1) := by decide +kernel
theorem d_Wo_clearRow_18 : decode (am_Mof y_Wo_clearRow).1 18 = .ok (.getfield 11, 3) := by decide +kernel
theorem d_Wo_clearRow_21 : decode (am_Mof y_Wo_clearRow).1 21 = .ok (.iload_n 1, 1) := by decide +kernel
theorem d_Wo_clearRow_22 : decode (am_Mof y_Wo_clearRow).1 22 = .ok (.aaload, 1) := by decide +kernel
theorem d_Wo_clearRow_23 : decode (am_Mof y_Wo_clearRow).1 23 = .ok (.iload_n 2, 1) := by decide +kernel
theorem d_Wo_clearRow_24 : decode (am_Mof y_Wo_clearRow).1 24 = .ok (.laload, 1) := by decide +kernel
theorem d_Wo_clearRow_25 : decode (am_Mof y_Wo_clearRow).1 25 = .ok (.lstore 7, 2) := by decide +kernel
theorem d_Wo_clearRow_27 : decode (am_Mof y_Wo_clearRow).1 27 = .ok (.iconst 0, 1) := by decide +kernel
theorem d_Wo_clearRow_28 : decode (am_Mof y_Wo_clearRow).1 28 = .ok (.istore 9, 2) := by decide +kernel
theorem d_Wo_clearRow_30 : decode (am_Mof y_Wo_clearRow).1 30 = .ok (.iload 9, 2) := by decide +kernel
theorem d_Wo_clearRow_32 : decode (am_Mof y_Wo_clearRow).1 32 = .ok (.iconst 5, 1) := by decide +kernel
theorem d_Wo_clearRow_33 : decode (am_Mof y_Wo_clearRow).1 33 = .ok (.if_icmp .gt 45, 3) := by decide +kernel
theorem d_Wo_clearRow_36 : decode (am_Mof y_Wo_clearRow).1 36 = .ok (.aload_n 0, 1) := by decide +kernel
theorem d_Wo_clearRow_37 : decode (am_Mof y_Wo_clearRow).1 37 = .ok (.getfield 11, 3) := by decide +kernel
theorem d_Wo_clearRow_40 : decode (am_Mof y_Wo_clearRow).1 40 = .ok (.iload_n 1, 1) := by decide +kernel
theorem d_Wo_clearRow_41 : decode (am_Mof y_Wo_clearRow).1 41 = .ok (.aaload, 1) := by decide +kernel
theorem d_Wo_clearRow_42 : decode (am_Mof y_Wo_clearRow).1 42 = .ok (.iload 9, 2) := by decide +kernel
theorem d_Wo_clearRow_44 : decode (am_Mof y_Wo_clearRow).1 44 = .ok (.lload 5, 2) := by decide +kernel
theorem d_Wo_clearRow_46 : decode (am_Mof y_Wo_clearRow).1 46 = .ok (.aload_n 0, 1) := by decide +kernel
theorem d_Wo_clearRow_47 : decode (am_Mof y_Wo_clearRow).1 47 = .ok (.getfield 11, 3) := by decide +kernel
theorem d_Wo_clearRow_50 : decode (am_Mof y_Wo_clearRow).1 50 = .ok (.iload_n 1, 1) := by decide +kernel
theorem d_Wo_clearRow_51 : decode (am_Mof y_Wo_clearRow).1 51 = .ok (.aaload, 1) := by decide +kernel
theorem d_Wo_clearRow_52 : decode (am_Mof y_Wo_clearRow).1 52 = .ok (.iload 9, 2) := by decide +kernel
theorem d_Wo_clearRow_54 : decode (am_Mof y_Wo_clearRow).1 54 = .ok (.laload, 1) := by decide +kernel
theorem d_Wo_clearRow_55 : decode (am_Mof y_Wo_clearRow).1 55 = .ok (.lmul, 1) := by decide +kernel
theorem d_Wo_clearRow_56 : decode (am_Mof y_Wo_clearRow).1 56 = .ok (.lload 7, 2) := by decide +kernel
theorem d_Wo_clearRow_58 : decode (am_Mof y_Wo_clearRow).1 58 = .ok (.aload_n 0, 1) := by decide +kernel
theorem d_Wo_clearRow_59 : decode (am_Mof y_Wo_clearRow).1 59 = .ok (.getfield 11, 3) := by decide +kernel
theorem d_Wo_clearRow_62 : decode (am_Mof y_Wo_clearRow).1 62 = .ok (.iload_n 2, 1) := by decide +kernel
theorem d_Wo_clearRow_63 : decode (am_Mof y_Wo_clearRow).1 63 = .ok (.aaload, 1) := by decide +kernel
theorem d_Wo_clearRow_64 : decode (am_Mof y_Wo_clearRow).1 64 = .ok (.iload 9, 2) := by decide +kernel
theorem d_Wo_clearRow_66 : decode (am_Mof y_Wo_clearRow).1 66 = .ok (.laload, 1) := by decide +kernel
theorem d_Wo_clearRow_67 : decode (am_Mof y_Wo_clearRow).1 67 = .ok (.lmul, 1) := by decide +kernel
theorem d_Wo_clearRow_68 : decode (am_Mof y_Wo_clearRow).1 68 = .ok (.lsub, 1) := by decide +kernel
theorem d_Wo_clearRow_69 : decode (am_Mof y_Wo_clearRow).1 69 = .ok (.lload_n 3, 1) := by decide +kernel
theorem d_Wo_clearRow_70 : decode (am_Mof y_Wo_clearRow).1 70 = .ok (.ldiv, 1) := by decide +kernel
theorem d_Wo_clearRow_71 : decode (am_Mof y_Wo_clearRow).1 71 = .ok (.lastore, 1) := by decide +kernel
theorem d_Wo_clearRow_72 : decode (am_Mof y_Wo_clearRow).1 72 = .ok (.iinc 9 1, 3) := by decide +kernel
theorem d_Wo_clearRow_75 : decode (am_Mof y_Wo_clearRow).1 75 = .ok (.goto (-45), 3) := by decide +kernel
theorem d_Wo_clearRow_78 : decode (am_Mof y_Wo_clearRow).1 78 = .ok (.return_, 1) := by decide +kernel
theorem d_Wo_aboveOf_0 : decode (am_Mof y_Wo_aboveOf).1 0 = .ok (.aload_n 0, 1) := by decide +kernel
theorem d_Wo_aboveOf_1 : decode (am_Mof y_Wo_aboveOf).1 1 = .ok (.getfield 11, 3) := by decide +kernel
theorem d_Wo_aboveOf_4 : decode (am_Mof y_Wo_aboveOf).1 4 = .ok (.iload_n 1, 1) := by decide +kernel
theorem d_Wo_aboveOf_5 : decode (am_Mof y_Wo_aboveOf).1 5 = .ok (.aaload, 1) := by decide +kernel
theorem d_Wo_aboveOf_6 : decode (am_Mof y_Wo_aboveOf).1 6 = .ok (.iconst 5, 1) := by decide +kernel
theorem d_Wo_aboveOf_7 : decode (am_Mof y_Wo_aboveOf).1 7 = .ok (.laload, 1) := by decide +kernel
theorem d_Wo_aboveOf_8 : decode (am_Mof y_Wo_aboveOf).1 8 = .ok (.lreturn, 1) := by decide +kernel
theorem d_RC_init_0 : decode (am_Mof y_RC_init).1 0 = .ok (.aload_n 0, 1) := by decide +kernel
theorem d_RC_init_1 : decode (am_Mof y_RC_init).1 1 = .ok (.invokespecial 1, 3) := by decide +kernel
theorem d_RC_init_4 : decode (am_Mof y_RC_init).1 4 = .ok (.aload_n 0, 1) := by decide +kernel
theorem d_RC_init_5 : decode (am_Mof y_RC_init).1 5 = .ok (.new 7, 3) := by decide +kernel
theorem d_RC_init_8 : decode (am_Mof y_RC_init).1 8 = .ok (.dup, 1) := by decide +kernel
theorem d_RC_init_9 : decode (am_Mof y_RC_init).1 9 = .ok (.invokespecial 9, 3) := by decide +kernel
theorem d_RC_init_12 : decode (am_Mof y_RC_init).1 12 = .ok (.putfield 10, 3) := by decide +kernel
theorem d_RC_init_15 : decode (am_Mof y_RC_init).1 15 = .ok (.aload_n 0, 1) := by decide +kernel
theorem d_RC_init_16 : decode (am_Mof y_RC_init).1 16 = .ok (.new 16, 3) := by decide +kernel
theorem d_RC_init_19 : decode (am_Mof y_RC_init).1 19 = .ok (.dup, 1) := by decide +kernel
theorem d_RC_init_20 : decode (am_Mof y_RC_init).1 20 = .ok (.invokespecial 18, 3) := by decide +kernel
theorem d_RC_init_23 : decode (am_Mof y_RC_init).1 23 = .ok (.putfield 19, 3) := by decide +kernel
theorem d_RC_init_26 : decode (am_Mof y_RC_init).1 26 = .ok (.aload_n 0, 1) := by decide +kernel
theorem d_RC_init_27 : decode (am_Mof y_RC_init).1 27 = .ok (.bipush 10, 2) := by decide +kernel
theorem d_RC_init_29 : decode (am_Mof y_RC_init).1 29 = .ok (.newarray .long, 2) := by decide +kernel
theorem d_RC_init_31 : decode (am_Mof y_RC_init).1 31 = .ok (.putfield 23, 3) := by decide +kernel
theorem d_RC_init_34 : decode (am_Mof y_RC_init).1 34 = .ok (.aload_n 0, 1) := by decide +kernel
theorem d_RC_init_35 : decode (am_Mof y_RC_init).1 35 = .ok (.bipush 40, 2) := by decide +kernel
theorem d_RC_init_37 : decode (am_Mof y_RC_init).1 37 = .ok (.newarray .long, 2) := by decide +kernel
theorem d_RC_init_39 : decode (am_Mof y_RC_init).1 39 = .ok (.putfield 27, 3) := by decide +kernel
theorem d_RC_init_42 : decode (am_Mof y_RC_init).1 42 = .ok (.aload_n 0, 1) := by decide +kernel
theorem d_RC_init_43 : decode (am_Mof y_RC_init).1 43 = .ok (.new 30, 3) := by decide +kernel
theorem d_RC_init_46 : decode (am_Mof y_RC_init).1 46 = .ok (.dup, 1) := by decide +kernel
theorem d_RC_init_47 : decode (am_Mof y_RC_init).1 47 = .ok (.invokespecial 32, 3) := by decide +kernel
theorem d_RC_init_50 : decode (am_Mof y_RC_init).1 50 = .ok (.putfield 33, 3) := by decide +kernel
theorem d_RC_init_53 : decode (am_Mof y_RC_init).1 53 = .ok (.aload_n 0, 1) := by decide +kernel
theorem d_RC_init_54 : decode (am_Mof y_RC_init).1 54 = .ok (.new 37, 3) := by decide +kernel
theorem d_RC_init_57 : decode (am_Mof y_RC_init).1 57 = .ok (.dup, 1) := by decide +kernel
theorem d_RC_init_58 : decode (am_Mof y_RC_init).1 58 = .ok (.invokespecial 39, 3) := by decide +kernel
theorem d_RC_init_61 : decode (am_Mof y_RC_init).1 61 = .ok (.putfield 40, 3) := by decide +kernel
theorem d_RC_init_64 : decode (am_Mof y_RC_init).1 64 = .ok (.aload_n 0, 1) := by decide +kernel
theorem d_RC_init_65 : decode (am_Mof y_RC_init).1 65 = .ok (.new 44, 3) := by decide +kernel
theorem d_RC_init_68 : decode (am_Mof y_RC_init).1 68 = .ok (.dup, 1) := by decide +kernel
theorem d_RC_init_69 : decode (am_Mof y_RC_init).1 69 = .ok (.invokespecial 46, 3) := by decide +kernel
theorem d_RC_init_72 : decode (am_Mof y_RC_init).1 72 = .ok (.putfield 47, 3) := by decide +kernel
theorem d_RC_init_75 : decode (am_Mof y_RC_init).1 75 = .ok (.return_, 1) := by decide +kernel
theorem d_RC_plant_0 : decode (am_Mof y_RC_plant).1 0 = .ok (.aload_n 0, 1) := by decide +kernel
theorem d_RC_plant_1 : decode (am_Mof y_RC_plant).1 1 = .ok (.getfield 10, 3) := by decide +kernel
theorem d_RC_plant_4 : decode (am_Mof y_RC_plant).1 4 = .ok (.invokevirtual 51, 3) := by decide +kernel
theorem d_RC_plant_7 : decode (am_Mof y_RC_plant).1 7 = .ok (.ireturn, 1) := by decide +kernel
theorem d_RC_share_0 : decode (am_Mof y_RC_share).1 0 = .ok (.lload_n 3, 1) := by decide +kernel
theorem d_RC_share_1 : decode (am_Mof y_RC_share).1 1 = .ok (.lload 5, 2) := by decide +kernel
theorem d_RC_share_3 : decode (am_Mof y_RC_share).1 3 = .ok (.invokestatic 55, 3) := by decide +kernel
theorem d_RC_share_6 : decode (am_Mof y_RC_share).1 6 = .ok (.istore 7, 2) := by decide +kernel
theorem d_RC_share_8 : decode (am_Mof y_RC_share).1 8 = .ok (.iload 7, 2) := by decide +kernel
theorem d_RC_share_10 : decode (am_Mof y_RC_share).1 10 = .ok (.iconst (-1), 1) := by decide +kernel
theorem d_RC_share_11 : decode (am_Mof y_RC_share).1 11 = .ok (.if_icmp .eq 25, 3) := by decide +kernel
theorem d_RC_share_14 : decode (am_Mof y_RC_share).1 14 = .ok (.aload_n 0, 1) := by decide +kernel
theorem d_RC_share_15 : decode (am_Mof y_RC_share).1 15 = .ok (.getfield 10, 3) := by decide +kernel
theorem d_RC_share_18 : decode (am_Mof y_RC_share).1 18 = .ok (.iload_n 1, 1) := by decide +kernel
theorem d_RC_share_19 : decode (am_Mof y_RC_share).1 19 = .ok (.invokevirtual 59, 3) := by decide +kernel
theorem d_RC_share_22 : decode (am_Mof y_RC_share).1 22 = .ok (.ifCond .eq 14, 3) := by decide +kernel
theorem d_RC_share_25 : decode (am_Mof y_RC_share).1 25 = .ok (.aload_n 0, 1) := by decide +kernel
theorem d_RC_share_26 : decode (am_Mof y_RC_share).1 26 = .ok (.getfield 10, 3) := by decide +kernel
theorem d_RC_share_29 : decode (am_Mof y_RC_share).1 29 = .ok (.iload_n 2, 1) := by decide +kernel
theorem d_RC_share_30 : decode (am_Mof y_RC_share).1 30 = .ok (.invokevirtual 59, 3) := by decide +kernel
theorem d_RC_share_33 : decode (am_Mof y_RC_share).1 33 = .ok (.ifCond .ne 5, 3) := by decide +kernel
theorem d_RC_share_36 : decode (am_Mof y_RC_share).1 36 = .ok (.iconst 0, 1) := by decide +kernel
theorem d_RC_share_37 : decode (am_Mof y_RC_share).1 37 = .ok (.ireturn, 1) := by decide +kernel
theorem d_RC_share_38 : decode (am_Mof y_RC_share).1 38 = .ok (.aload_n 0, 1) := by decide +kernel
theorem d_RC_share_39 : decode (am_Mof y_RC_share).1 39 = .ok (.getfield 10, 3) := by decide +kernel
theorem d_RC_share_42 : decode (am_Mof y_RC_share).1 42 = .ok (.iload_n 1, 1) := by decide +kernel
theorem d_RC_share_43 : decode (am_Mof y_RC_share).1 43 = .ok (.iload_n 2, 1) := by decide +kernel
theorem d_RC_share_44 : decode (am_Mof y_RC_share).1 44 = .ok (.iload 7, 2) := by decide +kernel
theorem d_RC_share_46 : decode (am_Mof y_RC_share).1 46 = .ok (.invokevirtual 63, 3) := by decide +kernel
theorem d_RC_share_49 : decode (am_Mof y_RC_share).1 49 = .ok (.ireturn, 1) := by decide +kernel
theorem d_RC_tenthsOf_0 : decode (am_Mof y_RC_tenthsOf).1 0 = .ok (.lload_n 2, 1) := by decide +kernel
theorem d_RC_tenthsOf_1 : decode (am_Mof y_RC_tenthsOf).1 1 = .ok (.lconst 1, 1) := by decide +kernel
theorem d_RC_tenthsOf_2 : decode (am_Mof y_RC_tenthsOf).1 2 = .ok (.lcmp, 1) := by decide +kernel
theorem d_RC_tenthsOf_3 : decode (am_Mof y_RC_tenthsOf).1 3 = .ok (.ifCond .eq 27, 3) := by decide +kernel
theorem d_RC_tenthsOf_6 : decode (am_Mof y_RC_tenthsOf).1 6 = .ok (.lload_n 2, 1) := by decide +kernel
theorem d_RC_tenthsOf_7 : decode (am_Mof y_RC_tenthsOf).1 7 = .ok (.ldc2_w 172, 3) := by decide +kernel
theorem d_RC_tenthsOf_10 : decode (am_Mof y_RC_tenthsOf).1 10 = .ok (.lcmp, 1) := by decide +kernel
theorem d_RC_tenthsOf_11 : decode (am_Mof y_RC_tenthsOf).1 11 = .ok (.ifCond .eq 19, 3) := by decide +kernel
theorem d_RC_tenthsOf_14 : decode (am_Mof y_RC_tenthsOf).1 14 = .ok (.lload_n 2, 1) := by decide +kernel
theorem d_RC_tenthsOf_15 : decode (am_Mof y_RC_tenthsOf).1 15 = .ok (.ldc2_w 174, 3) := by decide +kernel
theorem d_RC_tenthsOf_18 : decode (am_Mof y_RC_tenthsOf).1 18 = .ok (.lcmp, 1) := by decide +kernel
theorem d_RC_tenthsOf_19 : decode (am_Mof y_RC_tenthsOf).1 19 = .ok (.ifCond .eq 11, 3) := by decide +kernel
theorem d_RC_tenthsOf_22 : decode (am_Mof y_RC_tenthsOf).1 22 = .ok (.lload_n 2, 1) := by decide +kernel
theorem d_RC_tenthsOf_23 : decode (am_Mof y_RC_tenthsOf).1 23 = .ok (.ldc2_w 176, 3) := by decide +kernel
theorem d_RC_tenthsOf_26 : decode (am_Mof y_RC_tenthsOf).1 26 = .ok (.lcmp, 1) := by decide +kernel
theorem d_RC_tenthsOf_27 : decode (am_Mof y_RC_tenthsOf).1 27 = .ok (.ifCond .ne 7, 3) := by decide +kernel
theorem d_RC_tenthsOf_30 : decode (am_Mof y_RC_tenthsOf).1 30 = .ok (.iconst 1, 1) := by decide +kernel
theorem d_RC_tenthsOf_31 : decode (am_Mof y_RC_tenthsOf).1 31 = .ok (.goto 4, 3) := by decide +kernel
theorem d_RC_tenthsOf_34 : decode (am_Mof y_RC_tenthsOf).1 34 = .ok (.iconst 0, 1) := by decide +kernel
theorem d_RC_tenthsOf_35 : decode (am_Mof y_RC_tenthsOf).1 35 = .ok (.istore 4, 2) := by decide +kernel
theorem d_RC_tenthsOf_37 : decode (am_Mof y_RC_tenthsOf).1 37 = .ok (.iload 4, 2) := by decide +kernel
theorem d_RC_tenthsOf_39 : decode (am_Mof y_RC_tenthsOf).1 39 = .ok (.ifCond .eq 15, 3) := by decide +kernel
theorem d_RC_tenthsOf_42 : decode (am_Mof y_RC_tenthsOf).1 42 = .ok (.lload_n 0, 1) := by decide +kernel
theorem d_RC_tenthsOf_43 : decode (am_Mof y_RC_tenthsOf).1 43 = .ok (.lconst 0, 1) := by decide +kernel
theorem d_RC_tenthsOf_44 : decode (am_Mof y_RC_tenthsOf).1 44 = .ok (.lcmp, 1) := by decide +kernel
theorem d_RC_tenthsOf_45 : decode (am_Mof y_RC_tenthsOf).1 45 = .ok (.ifCond .lt 9, 3) := by decide +kernel
theorem d_RC_tenthsOf_48 : decode (am_Mof y_RC_tenthsOf).1 48 = .ok (.lload_n 0, 1) := by decide +kernel
theorem d_RC_tenthsOf_49 : decode (am_Mof y_RC_tenthsOf).1 49 = .ok (.lload_n 2, 1) := by decide +kernel
theorem d_RC_tenthsOf_50 : decode (am_Mof y_RC_tenthsOf).1 50 = .ok (.lcmp, 1) := by decide +kernel
theorem d_RC_tenthsOf_51 : decode (am_Mof y_RC_tenthsOf).1 51 = .ok (.ifCond .le 5, 3) := by decide +kernel
theorem d_RC_tenthsOf_54 : decode (am_Mof y_RC_tenthsOf).1 54 = .ok (.iconst (-1), 1) := by decide +kernel
theorem d_RC_tenthsOf_55 : decode (am_Mof y_RC_tenthsOf).1 55 = .ok (.ireturn, 1) := by decide +kernel
theorem d_RC_tenthsOf_56 : decode (am_Mof y_RC_tenthsOf).1 56 = .ok (.lload_n 0, 1) := by decide +kernel
theorem d_RC_tenthsOf_57 : decode (am_Mof y_RC_tenthsOf).1 57 = .ok (.ldc2_w 176, 3) := by decide +kernel
theorem d_RC_tenthsOf_60 : decode (am_Mof y_RC_tenthsOf).1 60 = .ok (.lload_n 2, 1) := by decide +kernel
theorem d_RC_tenthsOf_61 : decode (am_Mof y_RC_tenthsOf).1 61 = .ok (.ldiv, 1) := by decide +kernel
theorem d_RC_tenthsOf_62 : decode (am_Mof y_RC_tenthsOf).1 62 = .ok (.lmul, 1) := by decide +kernel
theorem d_RC_tenthsOf_63 : decode (am_Mof y_RC_tenthsOf).1 63 = .ok (.l2i, 1) := by decide +kernel
theorem d_RC_tenthsOf_64 : decode (am_Mof y_RC_tenthsOf).1 64 = .ok (.ireturn, 1) := by decide +kernel
theorem d_RC_point_0 : decode (am_Mof y_RC_point).1 0 = .ok (.aload_n 0, 1) := by decide +kernel
theorem d_RC_point_1 : decode (am_Mof y_RC_point).1 1 = .ok (.getfield 10, 3) := by decide +kernel
theorem d_RC_point_4 : decode (am_Mof y_RC_point).1 4 = .ok (.iload_n 1, 1) := by decide +kernel
theorem d_RC_point_5 : decode (am_Mof y_RC_point).1 5 = .ok (.invokevirtual 59, 3) := by decide +kernel
theorem d_RC_point_8 : decode (am_Mof y_RC_point).1 8 = .ok (.ifCond .eq 26, 3) := by decide +kernel
theorem d_RC_point_11 : decode (am_Mof y_RC_point).1 11 = .ok (.iload_n 2, 1) := by decide +kernel
theorem d_RC_point_12 : decode (am_Mof y_RC_point).1 12 = .ok (.invokestatic 67, 3) := by decide +kernel
theorem d_RC_point_15 : decode (am_Mof y_RC_point).1 15 = .ok (.ifCond .eq 19, 3) := by decide +kernel
theorem d_RC_point_18 : decode (am_Mof y_RC_point).1 18 = .ok (.aload_n 0, 1) := by decide +kernel
theorem d_RC_point_19 : decode (am_Mof y_RC_point).1 19 = .ok (.getfield 10, 3) := by decide +kernel
theorem d_RC_point_22 : decode (am_Mof y_RC_point).1 22 = .ok (.iload_n 1, 1) := by decide +kernel
theorem d_RC_point_23 : decode (am_Mof y_RC_point).1 23 = .ok (.iload_n 2, 1) := by decide +kernel
theorem d_RC_point_24 : decode (am_Mof y_RC_point).1 24 = .ok (.invokevirtual 70, 3) := by decide +kernel
theorem d_RC_point_27 : decode (am_Mof y_RC_point).1 27 = .ok (.ifCond .eq 7, 3) := by decide +kernel
theorem d_RC_point_30 : decode (am_Mof y_RC_point).1 30 = .ok (.iconst 1, 1) := by decide +kernel
theorem d_RC_point_31 : decode (am_Mof y_RC_point).1 31 = .ok (.goto 4, 3) := by decide +kernel
theorem d_RC_point_34 : decode (am_Mof y_RC_point).1 34 = .ok (.iconst 0, 1) := by decide +kernel
theorem d_RC_point_35 : decode (am_Mof y_RC_point).1 35 = .ok (.ireturn, 1) := by decide +kernel
theorem d_RC_isKind_0 : decode (am_Mof y_RC_isKind).1 0 = .ok (.iload_n 0, 1) := by decide +kernel
theorem d_RC_isKind_1 : decode (am_Mof y_RC_isKind).1 1 = .ok (.ifCond .lt 12, 3) := by decide +kernel
theorem d_RC_isKind_4 : decode (am_Mof y_RC_isKind).1 4 = .ok (.iload_n 0, 1) := by decide +kernel
theorem d_RC_isKind_5 : decode (am_Mof y_RC_isKind).1 5 = .ok (.iconst 4, 1) := by decide +kernel
theorem d_RC_isKind_6 : decode (am_Mof y_RC_isKind).1 6 = .ok (.if_icmp .ge 7, 3) := by decide +kernel
theorem d_RC_isKind_9 : decode (am_Mof y_RC_isKind).1 9 = .ok (.iconst 1, 1) := by decide +kernel
theorem d_RC_isKind_10 : decode (am_Mof y_RC_isKind).1 10 = .ok (.goto 4, 3) := by decide +kernel
theorem d_RC_isKind_13 : decode (am_Mof y_RC_isKind).1 13 = .ok (.iconst 0, 1) := by decide +kernel
theorem d_RC_isKind_14 : decode (am_Mof y_RC_isKind).1 14 = .ok (.ireturn, 1) := by decide +kernel
theorem d_RC_slotOf_0 : decode (am_Mof y_RC_slotOf).1 0 = .ok (.iload_n 0, 1) := by decide +kernel
theorem d_RC_slotOf_1 : decode (am_Mof y_RC_slotOf).1 1 = .ok (.iconst 4, 1) := by decide +kernel
theorem d_RC_slotOf_2 : decode (am_Mof y_RC_slotOf).1 2 = .ok (.imul, 1) := by decide +kernel
theorem d_RC_slotOf_3 : decode (am_Mof y_RC_slotOf).1 3 = .ok (.iload_n 1, 1) := by decide +kernel
theorem d_RC_slotOf_4 : decode (am_Mof y_RC_slotOf).1 4 = .ok (.iadd, 1) := by decide +kernel
theorem d_RC_slotOf_5 : decode (am_Mof y_RC_slotOf).1 5 = .ok (.ireturn, 1) := by decide +kernel
theorem d_RC_average_0 : decode (am_Mof y_RC_average).1 0 = .ok (.lload_n 2, 1) := by decide +kernel
theorem d_RC_average_1 : decode (am_Mof y_RC_average).1 1 = .ok (.lload 4, 2) := by decide +kernel
theorem d_RC_average_3 : decode (am_Mof y_RC_average).1 3 = .ok (.invokestatic 55, 3) := by decide +kernel
theorem d_RC_average_6 : decode (am_Mof y_RC_average).1 6 = .ok (.istore 6, 2) := by decide +kernel
theorem d_RC_average_8 : decode (am_Mof y_RC_average).1 8 = .ok (.iload 6, 2) := by decide +kernel
theorem d_RC_average_10 : decode (am_Mof y_RC_average).1 10 = .ok (.iconst (-1), 1) := by decide +kernel
theorem d_RC_average_11 : decode (am_Mof y_RC_average).1 11 = .ok (.if_icmp .eq 14, 3) := by decide +kernel
theorem d_RC_average_14 : decode (am_Mof y_RC_average).1 14 = .ok (.aload_n 0, 1) := by decide +kernel
theorem d_RC_average_15 : decode (am_Mof y_RC_average).1 15 = .ok (.getfield 10, 3) := by decide +kernel
theorem d_RC_average_18 : decode (am_Mof y_RC_average).1 18 = .ok (.iload_n 1, 1) := by decide +kernel
theorem d_RC_average_19 : decode (am_Mof y_RC_average).1 19 = .ok (.invokevirtual 59, 3) := by decide +kernel
theorem d_RC_average_22 : decode (am_Mof y_RC_average).1 22 = .ok (.ifCond .ne 5, 3) := by decide +kernel
theorem d_RC_average_25 : decode (am_Mof y_RC_average).1 25 = .ok (.iconst 0, 1) := by decide +kernel
theorem d_RC_average_26 : decode (am_Mof y_RC_average).1 26 = .ok (.ireturn, 1) := by decide +kernel
theorem d_RC_average_27 : decode (am_Mof y_RC_average).1 27 = .ok (.aload_n 0, 1) := by decide +kernel
theorem d_RC_average_28 : decode (am_Mof y_RC_average).1 28 = .ok (.getfield 10, 3) := by decide +kernel
theorem d_RC_average_31 : decode (am_Mof y_RC_average).1 31 = .ok (.iload_n 1, 1) := by decide +kernel
theorem d_RC_average_32 : decode (am_Mof y_RC_average).1 32 = .ok (.iload 6, 2) := by decide +kernel
theorem d_RC_average_34 : decode (am_Mof y_RC_average).1 34 = .ok (.invokevirtual 74, 3) := by decide +kernel
theorem d_RC_average_37 : decode (am_Mof y_RC_average).1 37 = .ok (.iconst 1, 1) := by decide +kernel
theorem d_RC_average_38 : decode (am_Mof y_RC_average).1 38 = .ok (.ireturn, 1) := by decide +kernel
theorem d_RC_feed_0 : decode (am_Mof y_RC_feed).1 0 = .ok (.aload_n 0, 1) := by decide +kernel
theorem d_RC_feed_1 : decode (am_Mof y_RC_feed).1 1 = .ok (.getfield 10, 3) := by decide +kernel
theorem d_RC_feed_4 : decode (am_Mof y_RC_feed).1 4 = .ok (.iload_n 1, 1) := by decide +kernel
theorem d_RC_feed_5 : decode (am_Mof y_RC_feed).1 5 = .ok (.invokevirtual 59, 3) := by decide +kernel
theorem d_RC_feed_8 : decode (am_Mof y_RC_feed).1 8 = .ok (.ifCond .eq 26, 3) := by decide +kernel
theorem d_RC_feed_11 : decode (am_Mof y_RC_feed).1 11 = .ok (.iload_n 2, 1) := by decide +kernel
theorem d_RC_feed_12 : decode (am_Mof y_RC_feed).1 12 = .ok (.invokestatic 67, 3) := by decide +kernel
theorem d_RC_feed_15 : decode (am_Mof y_RC_feed).1 15 = .ok (.ifCond .eq 19, 3) := by decide +kernel
theorem d_RC_feed_18 : decode (am_Mof y_RC_feed).1 18 = .ok (.iload 5, 2) := by decide +kernel
theorem d_RC_feed_20 : decode (am_Mof y_RC_feed).1 20 = .ok (.invokestatic 78, 3) := by decide +kernel
theorem d_RC_feed_23 : decode (am_Mof y_RC_feed).1 23 = .ok (.ifCond .eq 11, 3) := by decide +kernel
theorem d_RC_feed_26 : decode (am_Mof y_RC_feed).1 26 = .ok (.iload 6, 2) := by decide +kernel
theorem d_RC_feed_28 : decode (am_Mof y_RC_feed).1 28 = .ok (.invokestatic 81, 3) := by decide +kernel
theorem d_RC_feed_31 : decode (am_Mof y_RC_feed).1 31 = .ok (.ifCond .ne 5, 3) := by decide +kernel
theorem d_RC_feed_34 : decode (am_Mof y_RC_feed).1 34 = .ok (.iconst 0, 1) := by decide +kernel
theorem d_RC_feed_35 : decode (am_Mof y_RC_feed).1 35 = .ok (.ireturn, 1) := by decide +kernel
theorem d_RC_feed_36 : decode (am_Mof y_RC_feed).1 36 = .ok (.lload_n 3, 1) := by decide +kernel
theorem d_RC_feed_37 : decode (am_Mof y_RC_feed).1 37 = .ok (.lconst 0, 1) := by decide +kernel
theorem d_RC_feed_38 : decode (am_Mof y_RC_feed).1 38 = .ok (.ldc2_w 84, 3) := by decide +kernel
theorem d_RC_feed_41 : decode (am_Mof y_RC_feed).1 41 = .ok (.invokestatic 86, 3) := by decide +kernel
theorem d_RC_feed_44 : decode (am_Mof y_RC_feed).1 44 = .ok (.ifCond .eq 24, 3) := by decide +kernel
theorem d_RC_feed_47 : decode (am_Mof y_RC_feed).1 47 = .ok (.aload_n 0, 1) := by decide +kernel
theorem d_RC_feed_48 : decode (am_Mof y_RC_feed).1 48 = .ok (.getfield 19, 3) := by decide +kernel
theorem d_RC_feed_51 : decode (am_Mof y_RC_feed).1 51 = .ok (.iload_n 1, 1) := by decide +kernel
theorem d_RC_feed_52 : decode (am_Mof y_RC_feed).1 52 = .ok (.iload_n 2, 1) := by decide +kernel
theorem d_RC_feed_53 : decode (am_Mof y_RC_feed).1 53 = .ok (.lload_n 3, 1) := by decide +kernel
theorem d_RC_feed_54 : decode (am_Mof y_RC_feed).1 54 = .ok (.iload 5, 2) := by decide +kernel
theorem d_RC_feed_56 : decode (am_Mof y_RC_feed).1 56 = .ok (.iload 6, 2) := by decide +kernel
theorem d_RC_feed_58 : decode (am_Mof y_RC_feed).1 58 = .ok (.invokevirtual 90, 3) := by decide +kernel
theorem d_RC_feed_61 : decode (am_Mof y_RC_feed).1 61 = .ok (.ifCond .eq 7, 3) := by decide +kernel
theorem d_RC_feed_64 : decode (am_Mof y_RC_feed).1 64 = .ok (.iconst 1, 1) := by decide +kernel
theorem d_RC_feed_65 : decode (am_Mof y_RC_feed).1 65 = .ok (.goto 4, 3) := by decide +kernel
theorem d_RC_feed_68 : decode (am_Mof y_RC_feed).1 68 = .ok (.iconst 0, 1) := by decide +kernel
theorem d_RC_feed_69 : decode (am_Mof y_RC_feed).1 69 = .ok (.ireturn, 1) := by decide +kernel
theorem d_RC_isYear_0 : decode (am_Mof y_RC_isYear).1 0 = .ok (.iload_n 0, 1) := by decide +kernel
theorem d_RC_isYear_1 : decode (am_Mof y_RC_isYear).1 1 = .ok (.ifCond .lt 13, 3) := by decide +kernel
theorem d_RC_isYear_4 : decode (am_Mof y_RC_isYear).1 4 = .ok (.iload_n 0, 1) := by decide +kernel
theorem d_RC_isYear_5 : decode (am_Mof y_RC_isYear).1 5 = .ok (.bipush 10, 2) := by decide +kernel
theorem d_RC_isYear_7 : decode (am_Mof y_RC_isYear).1 7 = .ok (.if_icmp .ge 7, 3) := by decide +kernel
theorem d_RC_isYear_10 : decode (am_Mof y_RC_isYear).1 10 = .ok (.iconst 1, 1) := by decide +kernel
theorem d_RC_isYear_11 : decode (am_Mof y_RC_isYear).1 11 = .ok (.goto 4, 3) := by decide +kernel
theorem d_RC_isYear_14 : decode (am_Mof y_RC_isYear).1 14 = .ok (.iconst 0, 1) := by decide +kernel
theorem d_RC_isYear_15 : decode (am_Mof y_RC_isYear).1 15 = .ok (.ireturn, 1) := by decide +kernel
theorem d_RC_isCountry_0 : decode (am_Mof y_RC_isCountry).1 0 = .ok (.iload_n 0, 1) := by decide +kernel
theorem d_RC_isCountry_1 : decode (am_Mof y_RC_isCountry).1 1 = .ok (.ifCond .lt 12, 3) := by decide +kernel
theorem d_RC_isCountry_4 : decode (am_Mof y_RC_isCountry).1 4 = .ok (.iload_n 0, 1) := by decide +kernel
theorem d_RC_isCountry_5 : decode (am_Mof y_RC_isCountry).1 5 = .ok (.iconst 4, 1) := by decide +kernel
theorem d_RC_isCountry_6 : decode (am_Mof y_RC_isCountry).1 6 = .ok (.if_icmp .ge 7, 3) := by decide +kernel
theorem d_RC_isCountry_9 : decode (am_Mof y_RC_isCountry).1 9 = .ok (.iconst 1, 1) := by decide +kernel
theorem d_RC_isCountry_10 : decode (am_Mof y_RC_isCountry).1 10 = .ok (.goto 4, 3) := by decide +kernel
theorem d_RC_isCountry_13 : decode (am_Mof y_RC_isCountry).1 13 = .ok (.iconst 0, 1) := by decide +kernel
theorem d_RC_isCountry_14 : decode (am_Mof y_RC_isCountry).1 14 = .ok (.ireturn, 1) := by decide +kernel
theorem d_RC_isWithin_0 : decode (am_Mof y_RC_isWithin).1 0 = .ok (.lload_n 0, 1) := by decide +kernel
theorem d_RC_isWithin_1 : decode (am_Mof y_RC_isWithin).1 1 = .ok (.lload_n 2, 1) := by decide +kernel
theorem d_RC_isWithin_2 : decode (am_Mof y_RC_isWithin).1 2 = .ok (.lcmp, 1) := by decide +kernel
theorem d_RC_isWithin_3 : decode (am_Mof y_RC_isWithin).1 3 = .ok (.ifCond .lt 14, 3) := by decide +kernel
theorem d_RC_isWithin_6 : decode (am_Mof y_RC_isWithin).1 6 = .ok (.lload_n 0, 1) := by decide +kernel
theorem d_RC_isWithin_7 : decode (am_Mof y_RC_isWithin).1 7 = .ok (.lload 4, 2) := by decide +kernel
theorem d_RC_isWithin_9 : decode (am_Mof y_RC_isWithin).1 9 = .ok (.lcmp, 1) := by decide +kernel
theorem d_RC_isWithin_10 : decode (am_Mof y_RC_isWithin).1 10 = .ok (.ifCond .gt 7, 3) := by decide +kernel
theorem d_RC_isWithin_13 : decode (am_Mof y_RC_isWithin).1 13 = .ok (.iconst 1, 1) := by decide +kernel
theorem d_RC_isWithin_14 : decode (am_Mof y_RC_isWithin).1 14 = .ok (.goto 4, 3) := by decide +kernel
theorem d_RC_isWithin_17 : decode (am_Mof y_RC_isWithin).1 17 = .ok (.iconst 0, 1) := by decide +kernel
theorem d_RC_isWithin_18 : decode (am_Mof y_RC_isWithin).1 18 = .ok (.ireturn, 1) := by decide +kernel
theorem d_RC_metals_0 : decode (am_Mof y_RC_metals).1 0 = .ok (.iload_n 1, 1) := by decide +kernel
theorem d_RC_metals_1 : decode (am_Mof y_RC_metals).1 1 = .ok (.invokestatic 78, 3) := by decide +kernel
theorem d_RC_metals_4 : decode (am_Mof y_RC_metals).1 4 = .ok (.ifCond .eq 14, 3) := by decide +kernel
theorem d_RC_metals_7 : decode (am_Mof y_RC_metals).1 7 = .ok (.lload_n 2, 1) := by decide +kernel
theorem d_RC_metals_8 : decode (am_Mof y_RC_metals).1 8 = .ok (.lconst 0, 1) := by decide +kernel
theorem d_RC_metals_9 : decode (am_Mof y_RC_metals).1 9 = .ok (.ldc2_w 84, 3) := by decide +kernel
theorem d_RC_metals_12 : decode (am_Mof y_RC_metals).1 12 = .ok (.invokestatic 86, 3) := by decide +kernel
theorem d_RC_metals_15 : decode (am_Mof y_RC_metals).1 15 = .ok (.ifCond .ne 5, 3) := by decide +kernel
theorem d_RC_metals_18 : decode (am_Mof y_RC_metals).1 18 = .ok (.iconst 0, 1) := by decide +kernel
theorem d_RC_metals_19 : decode (am_Mof y_RC_metals).1 19 = .ok (.ireturn, 1) := by decide +kernel
theorem d_RC_metals_20 : decode (am_Mof y_RC_metals).1 20 = .ok (.aload_n 0, 1) := by decide +kernel
theorem d_RC_metals_21 : decode (am_Mof y_RC_metals).1 21 = .ok (.getfield 23, 3) := by decide +kernel
theorem d_RC_metals_24 : decode (am_Mof y_RC_metals).1 24 = .ok (.iload_n 1, 1) := by decide +kernel
theorem d_RC_metals_25 : decode (am_Mof y_RC_metals).1 25 = .ok (.lload_n 2, 1) := by decide +kernel
theorem d_RC_metals_26 : decode (am_Mof y_RC_metals).1 26 = .ok (.lastore, 1) := by decide +kernel
theorem d_RC_metals_27 : decode (am_Mof y_RC_metals).1 27 = .ok (.iconst 1, 1) := by decide +kernel
theorem d_RC_metals_28 : decode (am_Mof y_RC_metals).1 28 = .ok (.ireturn, 1) := by decide +kernel
theorem d_RC_placed_0 : decode (am_Mof y_RC_placed).1 0 = .ok (.iload_n 1, 1) := by decide +kernel
theorem d_RC_placed_1 : decode (am_Mof y_RC_placed).1 1 = .ok (.invokestatic 67, 3) := by decide +kernel
theorem d_RC_placed_4 : decode (am_Mof y_RC_placed).1 4 = .ok (.ifCond .eq 21, 3) := by decide +kernel
theorem d_RC_placed_7 : decode (am_Mof y_RC_placed).1 7 = .ok (.iload_n 2, 1) := by decide +kernel
theorem d_RC_placed_8 : decode (am_Mof y_RC_placed).1 8 = .ok (.invokestatic 78, 3) := by decide +kernel
theorem d_RC_placed_11 : decode (am_Mof y_RC_placed).1 11 = .ok (.ifCond .eq 14, 3) := by decide +kernel
theorem d_RC_placed_14 : decode (am_Mof y_RC_placed).1 14 = .ok (.lload_n 3, 1) := by decide +kernel
theorem d_RC_placed_15 : decode (am_Mof y_RC_placed).1 15 = .ok (.lconst 0, 1) := by decide +kernel
theorem d_RC_placed_16 : decode (am_Mof y_RC_placed).1 16 = .ok (.ldc2_w 93, 3) := by decide +kernel
theorem d_RC_placed_19 : decode (am_Mof y_RC_placed).1 19 = .ok (.invokestatic 86, 3) := by decide +kernel
theorem d_RC_placed_22 : decode (am_Mof y_RC_placed).1 22 = .ok (.ifCond .ne 5, 3) := by decide +kernel
theorem d_RC_placed_25 : decode (am_Mof y_RC_placed).1 25 = .ok (.iconst 0, 1) := by decide +kernel
theorem d_RC_placed_26 : decode (am_Mof y_RC_placed).1 26 = .ok (.ireturn, 1) := by decide +kernel
theorem d_RC_placed_27 : decode (am_Mof y_RC_placed).1 27 = .ok (.aload_n 0, 1) := by decide +kernel
theorem d_RC_placed_28 : decode (am_Mof y_RC_placed).1 28 = .ok (.getfield 27, 3) := by decide +kernel
theorem d_RC_placed_31 : decode (am_Mof y_RC_placed).1 31 = .ok (.iload_n 1, 1) := by decide +kernel
theorem d_RC_placed_32 : decode (am_Mof y_RC_placed).1 32 = .ok (.iload_n 2, 1) := by decide +kernel
theorem d_RC_placed_33 : decode (am_Mof y_RC_placed).1 33 = .ok (.invokestatic 95, 3) := by decide +kernel
theorem d_RC_placed_36 : decode (am_Mof y_RC_placed).1 36 = .ok (.lload_n 3, 1) := by decide +kernel
theorem d_RC_placed_37 : decode (am_Mof y_RC_placed).1 37 = .ok (.lastore, 1) := by decide +kernel
theorem d_RC_placed_38 : decode (am_Mof y_RC_placed).1 38 = .ok (.iconst 1, 1) := by decide +kernel
theorem d_RC_placed_39 : decode (am_Mof y_RC_placed).1 39 = .ok (.ireturn, 1) := by decide +kernel
theorem d_RC_cell_0 : decode (am_Mof y_RC_cell).1 0 = .ok (.iload_n 0, 1) := by decide +kernel
theorem d_RC_cell_1 : decode (am_Mof y_RC_cell).1 1 = .ok (.bipush 10, 2) := by decide +kernel
theorem d_RC_cell_3 : decode (am_Mof y_RC_cell).1 3 = .ok (.imul, 1) := by decide +kernel
theorem d_RC_cell_4 : decode (am_Mof y_RC_cell).1 4 = .ok (.iload_n 1, 1) := by decide +kernel
theorem d_RC_cell_5 : decode (am_Mof y_RC_cell).1 5 = .ok (.iadd, 1) := by decide +kernel
theorem d_RC_cell_6 : decode (am_Mof y_RC_cell).1 6 = .ok (.ireturn, 1) := by decide +kernel
theorem d_RC_solve_0 : decode (am_Mof y_RC_solve).1 0 = .ok (.aload_n 0, 1) := by decide +kernel
theorem d_RC_solve_1 : decode (am_Mof y_RC_solve).1 1 = .ok (.getfield 10, 3) := by decide +kernel
theorem d_RC_solve_4 : decode (am_Mof y_RC_solve).1 4 = .ok (.invokevirtual 99, 3) := by decide +kernel
theorem d_RC_solve_7 : decode (am_Mof y_RC_solve).1 7 = .ok (.istore_n 1, 1) := by decide +kernel
theorem d_RC_solve_8 : decode (am_Mof y_RC_solve).1 8 = .ok (.iload_n 1, 1) := by decide +kernel
theorem d_RC_solve_9 : decode (am_Mof y_RC_solve).1 9 = .ok (.iconst (-1), 1) := by decide +kernel
theorem d_RC_solve_10 : decode (am_Mof y_RC_solve).1 10 = .ok (.if_icmp .eq 7, 3) := by decide +kernel
theorem d_RC_solve_13 : decode (am_Mof y_RC_solve).1 13 = .ok (.iconst 1, 1) := by decide +kernel
theorem d_RC_solve_14 : decode (am_Mof y_RC_solve).1 14 = .ok (.iload_n 1, 1) := by decide +kernel
theorem d_RC_solve_15 : decode (am_Mof y_RC_solve).1 15 = .ok (.iadd, 1) := by decide +kernel
theorem d_RC_solve_16 : decode (am_Mof y_RC_solve).1 16 = .ok (.ireturn, 1) := by decide +kernel
theorem d_RC_solve_17 : decode (am_Mof y_RC_solve).1 17 = .ok (.aload_n 0, 1) := by decide +kernel
theorem d_RC_solve_18 : decode (am_Mof y_RC_solve).1 18 = .ok (.getfield 33, 3) := by decide +kernel
theorem d_RC_solve_21 : decode (am_Mof y_RC_solve).1 21 = .ok (.aload_n 0, 1) := by decide +kernel
theorem d_RC_solve_22 : decode (am_Mof y_RC_solve).1 22 = .ok (.getfield 10, 3) := by decide +kernel
theorem d_RC_solve_25 : decode (am_Mof y_RC_solve).1 25 = .ok (.aload_n 0, 1) := by decide +kernel
theorem d_RC_solve_26 : decode (am_Mof y_RC_solve).1 26 = .ok (.getfield 19, 3) := by decide +kernel
theorem d_RC_solve_29 : decode (am_Mof y_RC_solve).1 29 = .ok (.aload_n 0, 1) := by decide +kernel
theorem d_RC_solve_30 : decode (am_Mof y_RC_solve).1 30 = .ok (.getfield 23, 3) := by decide +kernel
theorem d_RC_solve_33 : decode (am_Mof y_RC_solve).1 33 = .ok (.invokevirtual 102, 3) := by decide +kernel
theorem d_RC_solve_36 : decode (am_Mof y_RC_solve).1 36 = .ok (.iconst 0, 1) := by decide +kernel
theorem d_RC_solve_37 : decode (am_Mof y_RC_solve).1 37 = .ok (.ireturn, 1) := by decide +kernel
theorem d_RC_counted_0 : decode (am_Mof y_RC_counted).1 0 = .ok (.aload_n 0, 1) := by decide +kernel
theorem d_RC_counted_1 : decode (am_Mof y_RC_counted).1 1 = .ok (.getfield 33, 3) := by decide +kernel
theorem d_RC_counted_4 : decode (am_Mof y_RC_counted).1 4 = .ok (.invokevirtual 106, 3) := by decide +kernel
theorem d_RC_counted_7 : decode (am_Mof y_RC_counted).1 7 = .ok (.ifCond .eq 24, 3) := by decide +kernel
theorem d_RC_counted_10 : decode (am_Mof y_RC_counted).1 10 = .ok (.iload_n 1, 1) := by decide +kernel
theorem d_RC_counted_11 : decode (am_Mof y_RC_counted).1 11 = .ok (.invokestatic 67, 3) := by decide +kernel
theorem d_RC_counted_14 : decode (am_Mof y_RC_counted).1 14 = .ok (.ifCond .eq 17, 3) := by decide +kernel
theorem d_RC_counted_17 : decode (am_Mof y_RC_counted).1 17 = .ok (.iload_n 2, 1) := by decide +kernel
theorem d_RC_counted_18 : decode (am_Mof y_RC_counted).1 18 = .ok (.invokestatic 78, 3) := by decide +kernel
theorem d_RC_counted_21 : decode (am_Mof y_RC_counted).1 21 = .ok (.ifCond .eq 10, 3) := by decide +kernel
theorem d_RC_counted_24 : decode (am_Mof y_RC_counted).1 24 = .ok (.iload_n 3, 1) := by decide +kernel
theorem d_RC_counted_25 : decode (am_Mof y_RC_counted).1 25 = .ok (.invokestatic 110, 3) := by decide +kernel
theorem d_RC_counted_28 : decode (am_Mof y_RC_counted).1 28 = .ok (.ifCond .ne 7, 3) := by decide +kernel
theorem d_RC_counted_31 : decode (am_Mof y_RC_counted).1 31 = .ok (.ldc2_w 113, 3) := by decide +kernel
theorem d_RC_counted_34 : decode (am_Mof y_RC_counted).1 34 = .ok (.lreturn, 1) := by decide +kernel
theorem d_RC_counted_35 : decode (am_Mof y_RC_counted).1 35 = .ok (.aload_n 0, 1) := by decide +kernel
theorem d_RC_counted_36 : decode (am_Mof y_RC_counted).1 36 = .ok (.getfield 33, 3) := by decide +kernel
theorem d_RC_counted_39 : decode (am_Mof y_RC_counted).1 39 = .ok (.iload_n 1, 1) := by decide +kernel
theorem d_RC_counted_40 : decode (am_Mof y_RC_counted).1 40 = .ok (.iload_n 2, 1) := by decide +kernel
theorem d_RC_counted_41 : decode (am_Mof y_RC_counted).1 41 = .ok (.invokevirtual 115, 3) := by decide +kernel
theorem d_RC_counted_44 : decode (am_Mof y_RC_counted).1 44 = .ok (.aload_n 0, 1) := by decide +kernel
theorem d_RC_counted_45 : decode (am_Mof y_RC_counted).1 45 = .ok (.getfield 33, 3) := by decide +kernel
theorem d_RC_counted_48 : decode (am_Mof y_RC_counted).1 48 = .ok (.iload_n 1, 1) := by decide +kernel
theorem d_RC_counted_49 : decode (am_Mof y_RC_counted).1 49 = .ok (.invokevirtual 119, 3) := by decide +kernel
theorem d_RC_counted_52 : decode (am_Mof y_RC_counted).1 52 = .ok (.iload_n 3, 1) := by decide +kernel
theorem d_RC_counted_53 : decode (am_Mof y_RC_counted).1 53 = .ok (.invokestatic 123, 3) := by decide +kernel
theorem d_RC_counted_56 : decode (am_Mof y_RC_counted).1 56 = .ok (.lreturn, 1) := by decide +kernel
theorem d_RC_isPart_0 : decode (am_Mof y_RC_isPart).1 0 = .ok (.iload_n 0, 1) := by decide +kernel
theorem d_RC_isPart_1 : decode (am_Mof y_RC_isPart).1 1 = .ok (.ifCond .eq 8, 3) := by decide +kernel
theorem d_RC_isPart_4 : decode (am_Mof y_RC_isPart).1 4 = .ok (.iload_n 0, 1) := by decide +kernel
theorem d_RC_isPart_5 : decode (am_Mof y_RC_isPart).1 5 = .ok (.iconst 1, 1) := by decide +kernel
theorem d_RC_isPart_6 : decode (am_Mof y_RC_isPart).1 6 = .ok (.if_icmp .ne 7, 3) := by decide +kernel
theorem d_RC_isPart_9 : decode (am_Mof y_RC_isPart).1 9 = .ok (.iconst 1, 1) := by decide +kernel
theorem d_RC_isPart_10 : decode (am_Mof y_RC_isPart).1 10 = .ok (.goto 4, 3) := by decide +kernel
theorem d_RC_isPart_13 : decode (am_Mof y_RC_isPart).1 13 = .ok (.iconst 0, 1) := by decide +kernel
theorem d_RC_isPart_14 : decode (am_Mof y_RC_isPart).1 14 = .ok (.ireturn, 1) := by decide +kernel
theorem d_RC_partOf_0 : decode (am_Mof y_RC_partOf).1 0 = .ok (.lload_n 0, 1) := by decide +kernel
theorem d_RC_partOf_1 : decode (am_Mof y_RC_partOf).1 1 = .ok (.lconst 0, 1) := by decide +kernel
theorem d_RC_partOf_2 : decode (am_Mof y_RC_partOf).1 2 = .ok (.lcmp, 1) := by decide +kernel
theorem d_RC_partOf_3 : decode (am_Mof y_RC_partOf).1 3 = .ok (.ifCond .ge 8, 3) := by decide +kernel
theorem d_RC_partOf_6 : decode (am_Mof y_RC_partOf).1 6 = .ok (.lload_n 0, 1) := by decide +kernel
theorem d_RC_partOf_7 : decode (am_Mof y_RC_partOf).1 7 = .ok (.lneg, 1) := by decide +kernel
theorem d_RC_partOf_8 : decode (am_Mof y_RC_partOf).1 8 = .ok (.goto 4, 3) := by decide +kernel
theorem d_RC_partOf_11 : decode (am_Mof y_RC_partOf).1 11 = .ok (.lload_n 0, 1) := by decide +kernel
theorem d_RC_partOf_12 : decode (am_Mof y_RC_partOf).1 12 = .ok (.lload_n 2, 1) := by decide +kernel
theorem d_RC_partOf_13 : decode (am_Mof y_RC_partOf).1 13 = .ok (.invokestatic 178, 3) := by decide +kernel
theorem d_RC_partOf_16 : decode (am_Mof y_RC_partOf).1 16 = .ok (.lstore 5, 2) := by decide +kernel
theorem d_RC_partOf_18 : decode (am_Mof y_RC_partOf).1 18 = .ok (.lload 5, 2) := by decide +kernel
theorem d_RC_partOf_20 : decode (am_Mof y_RC_partOf).1 20 = .ok (.lconst 0, 1) := by decide +kernel
theorem d_RC_partOf_21 : decode (am_Mof y_RC_partOf).1 21 = .ok (.lcmp, 1) := by decide +kernel
theorem d_RC_partOf_22 : decode (am_Mof y_RC_partOf).1 22 = .ok (.ifCond .ne 5, 3) := by decide +kernel
theorem d_RC_partOf_25 : decode (am_Mof y_RC_partOf).1 25 = .ok (.lconst 0, 1) := by decide +kernel
theorem d_RC_partOf_26 : decode (am_Mof y_RC_partOf).1 26 = .ok (.lreturn, 1) := by decide +kernel
theorem d_RC_partOf_27 : decode (am_Mof y_RC_partOf).1 27 = .ok (.iload 4, 2) := by decide +kernel
theorem d_RC_partOf_29 : decode (am_Mof y_RC_partOf).1 29 = .ok (.ifCond .ne 10, 3) := by decide +kernel
theorem d_RC_partOf_32 : decode (am_Mof y_RC_partOf).1 32 = .ok (.lload_n 0, 1) := by decide +kernel
theorem d_RC_partOf_33 : decode (am_Mof y_RC_partOf).1 33 = .ok (.lload 5, 2) := by decide +kernel
theorem d_RC_partOf_35 : decode (am_Mof y_RC_partOf).1 35 = .ok (.ldiv, 1) := by decide +kernel
theorem d_RC_partOf_36 : decode (am_Mof y_RC_partOf).1 36 = .ok (.goto 7, 3) := by decide +kernel
theorem d_RC_partOf_39 : decode (am_Mof y_RC_partOf).1 39 = .ok (.lload_n 2, 1) := by decide +kernel
theorem d_RC_partOf_40 : decode (am_Mof y_RC_partOf).1 40 = .ok (.lload 5, 2) := by decide +kernel
theorem d_RC_partOf_42 : decode (am_Mof y_RC_partOf).1 42 = .ok (.ldiv, 1) := by decide +kernel
theorem d_RC_partOf_43 : decode (am_Mof y_RC_partOf).1 43 = .ok (.lreturn, 1) := by decide +kernel
theorem d_RC_commonOf_0 : decode (am_Mof y_RC_commonOf).1 0 = .ok (.lload_n 0, 1) := by decide +kernel
theorem d_RC_commonOf_1 : decode (am_Mof y_RC_commonOf).1 1 = .ok (.lstore 4, 2) := by decide +kernel
theorem d_RC_commonOf_3 : decode (am_Mof y_RC_commonOf).1 3 = .ok (.lload_n 2, 1) := by decide +kernel
theorem d_RC_commonOf_4 : decode (am_Mof y_RC_commonOf).1 4 = .ok (.lstore 6, 2) := by decide +kernel
theorem d_RC_commonOf_6 : decode (am_Mof y_RC_commonOf).1 6 = .ok (.iconst 0, 1) := by decide +kernel
theorem d_RC_commonOf_7 : decode (am_Mof y_RC_commonOf).1 7 = .ok (.istore 8, 2) := by decide +kernel
theorem d_RC_commonOf_9 : decode (am_Mof y_RC_commonOf).1 9 = .ok (.iload 8, 2) := by decide +kernel
theorem d_RC_commonOf_11 : decode (am_Mof y_RC_commonOf).1 11 = .ok (.sipush 128, 3) := by decide +kernel
theorem d_RC_commonOf_14 : decode (am_Mof y_RC_commonOf).1 14 = .ok (.if_icmp .ge 31, 3) := by decide +kernel
theorem d_RC_commonOf_17 : decode (am_Mof y_RC_commonOf).1 17 = .ok (.lload 6, 2) := by decide +kernel
theorem d_RC_commonOf_19 : decode (am_Mof y_RC_commonOf).1 19 = .ok (.lconst 0, 1) := by decide +kernel
theorem d_RC_commonOf_20 : decode (am_Mof y_RC_commonOf).1 20 = .ok (.lcmp, 1) := by decide +kernel
theorem d_RC_commonOf_21 : decode (am_Mof y_RC_commonOf).1 21 = .ok (.ifCond .eq 24, 3) := by decide +kernel
theorem d_RC_commonOf_24 : decode (am_Mof y_RC_commonOf).1 24 = .ok (.lload 4, 2) := by decide +kernel
theorem d_RC_commonOf_26 : decode (am_Mof y_RC_commonOf).1 26 = .ok (.lload 6, 2) := by decide +kernel
theorem d_RC_commonOf_28 : decode (am_Mof y_RC_commonOf).1 28 = .ok (.lrem, 1) := by decide +kernel
theorem d_RC_commonOf_29 : decode (am_Mof y_RC_commonOf).1 29 = .ok (.lstore 9, 2) := by decide +kernel
theorem d_RC_commonOf_31 : decode (am_Mof y_RC_commonOf).1 31 = .ok (.lload 6, 2) := by decide +kernel
theorem d_RC_commonOf_33 : decode (am_Mof y_RC_commonOf).1 33 = .ok (.lstore 4, 2) := by decide +kernel
theorem d_RC_commonOf_35 : decode (am_Mof y_RC_commonOf).1 35 = .ok (.lload 9, 2) := by decide +kernel
theorem d_RC_commonOf_37 : decode (am_Mof y_RC_commonOf).1 37 = .ok (.lstore 6, 2) := by decide +kernel
theorem d_RC_commonOf_39 : decode (am_Mof y_RC_commonOf).1 39 = .ok (.iinc 8 1, 3) := by decide +kernel
theorem d_RC_commonOf_42 : decode (am_Mof y_RC_commonOf).1 42 = .ok (.goto (-33), 3) := by decide +kernel
theorem d_RC_commonOf_45 : decode (am_Mof y_RC_commonOf).1 45 = .ok (.lload 4, 2) := by decide +kernel
theorem d_RC_commonOf_47 : decode (am_Mof y_RC_commonOf).1 47 = .ok (.lreturn, 1) := by decide +kernel
theorem d_RC_rate_0 : decode (am_Mof y_RC_rate).1 0 = .ok (.aload_n 0, 1) := by decide +kernel
theorem d_RC_rate_1 : decode (am_Mof y_RC_rate).1 1 = .ok (.getfield 33, 3) := by decide +kernel
theorem d_RC_rate_4 : decode (am_Mof y_RC_rate).1 4 = .ok (.invokevirtual 106, 3) := by decide +kernel
theorem d_RC_rate_7 : decode (am_Mof y_RC_rate).1 7 = .ok (.ifCond .eq 24, 3) := by decide +kernel
theorem d_RC_rate_10 : decode (am_Mof y_RC_rate).1 10 = .ok (.iload_n 1, 1) := by decide +kernel
theorem d_RC_rate_11 : decode (am_Mof y_RC_rate).1 11 = .ok (.invokestatic 67, 3) := by decide +kernel
theorem d_RC_rate_14 : decode (am_Mof y_RC_rate).1 14 = .ok (.ifCond .eq 17, 3) := by decide +kernel
theorem d_RC_rate_17 : decode (am_Mof y_RC_rate).1 17 = .ok (.iload_n 2, 1) := by decide +kernel
theorem d_RC_rate_18 : decode (am_Mof y_RC_rate).1 18 = .ok (.invokestatic 78, 3) := by decide +kernel
theorem d_RC_rate_21 : decode (am_Mof y_RC_rate).1 21 = .ok (.ifCond .eq 10, 3) := by decide +kernel
theorem d_RC_rate_24 : decode (am_Mof y_RC_rate).1 24 = .ok (.iload_n 3, 1) := by decide +kernel
theorem d_RC_rate_25 : decode (am_Mof y_RC_rate).1 25 = .ok (.invokestatic 110, 3) := by decide +kernel
theorem d_RC_rate_28 : decode (am_Mof y_RC_rate).1 28 = .ok (.ifCond .ne 7, 3) := by decide +kernel
theorem d_RC_rate_31 : decode (am_Mof y_RC_rate).1 31 = .ok (.ldc2_w 113, 3) := by decide +kernel
theorem d_RC_rate_34 : decode (am_Mof y_RC_rate).1 34 = .ok (.lreturn, 1) := by decide +kernel
theorem d_RC_rate_35 : decode (am_Mof y_RC_rate).1 35 = .ok (.aload_n 0, 1) := by decide +kernel
theorem d_RC_rate_36 : decode (am_Mof y_RC_rate).1 36 = .ok (.getfield 27, 3) := by decide +kernel
theorem d_RC_rate_39 : decode (am_Mof y_RC_rate).1 39 = .ok (.iload_n 1, 1) := by decide +kernel
theorem d_RC_rate_40 : decode (am_Mof y_RC_rate).1 40 = .ok (.iload_n 2, 1) := by decide +kernel
theorem d_RC_rate_41 : decode (am_Mof y_RC_rate).1 41 = .ok (.invokestatic 95, 3) := by decide +kernel
theorem d_RC_rate_44 : decode (am_Mof y_RC_rate).1 44 = .ok (.laload, 1) := by decide +kernel
theorem d_RC_rate_45 : decode (am_Mof y_RC_rate).1 45 = .ok (.lstore 4, 2) := by decide +kernel
theorem d_RC_rate_47 : decode (am_Mof y_RC_rate).1 47 = .ok (.lload 4, 2) := by decide +kernel
theorem d_RC_rate_49 : decode (am_Mof y_RC_rate).1 49 = .ok (.lconst 0, 1) := by decide +kernel
theorem d_RC_rate_50 : decode (am_Mof y_RC_rate).1 50 = .ok (.lcmp, 1) := by decide +kernel
theorem d_RC_rate_51 : decode (am_Mof y_RC_rate).1 51 = .ok (.ifCond .ne 5, 3) := by decide +kernel
theorem d_RC_rate_54 : decode (am_Mof y_RC_rate).1 54 = .ok (.lconst 0, 1) := by decide +kernel
theorem d_RC_rate_55 : decode (am_Mof y_RC_rate).1 55 = .ok (.lreturn, 1) := by decide +kernel
theorem d_RC_rate_56 : decode (am_Mof y_RC_rate).1 56 = .ok (.aload_n 0, 1) := by decide +kernel
theorem d_RC_rate_57 : decode (am_Mof y_RC_rate).1 57 = .ok (.getfield 33, 3) := by decide +kernel
theorem d_RC_rate_60 : decode (am_Mof y_RC_rate).1 60 = .ok (.iconst 0, 1) := by decide +kernel
theorem d_RC_rate_61 : decode (am_Mof y_RC_rate).1 61 = .ok (.iload_n 1, 1) := by decide +kernel
theorem d_RC_rate_62 : decode (am_Mof y_RC_rate).1 62 = .ok (.iload_n 2, 1) := by decide +kernel
theorem d_RC_rate_63 : decode (am_Mof y_RC_rate).1 63 = .ok (.invokevirtual 127, 3) := by decide +kernel
theorem d_RC_rate_66 : decode (am_Mof y_RC_rate).1 66 = .ok (.lstore 6, 2) := by decide +kernel
theorem d_RC_rate_68 : decode (am_Mof y_RC_rate).1 68 = .ok (.lload 6, 2) := by decide +kernel
theorem d_RC_rate_70 : decode (am_Mof y_RC_rate).1 70 = .ok (.aload_n 0, 1) := by decide +kernel
theorem d_RC_rate_71 : decode (am_Mof y_RC_rate).1 71 = .ok (.getfield 33, 3) := by decide +kernel
theorem d_RC_rate_74 : decode (am_Mof y_RC_rate).1 74 = .ok (.iload_n 1, 1) := by decide +kernel
theorem d_RC_rate_75 : decode (am_Mof y_RC_rate).1 75 = .ok (.invokevirtual 119, 3) := by decide +kernel
theorem d_RC_rate_78 : decode (am_Mof y_RC_rate).1 78 = .ok (.lload 4, 2) := by decide +kernel
theorem d_RC_rate_80 : decode (am_Mof y_RC_rate).1 80 = .ok (.lmul, 1) := by decide +kernel
theorem d_RC_rate_81 : decode (am_Mof y_RC_rate).1 81 = .ok (.iload_n 3, 1) := by decide +kernel
theorem d_RC_rate_82 : decode (am_Mof y_RC_rate).1 82 = .ok (.invokestatic 123, 3) := by decide +kernel
theorem d_RC_rate_85 : decode (am_Mof y_RC_rate).1 85 = .ok (.lreturn, 1) := by decide +kernel
theorem d_RC_twice_0 : decode (am_Mof y_RC_twice).1 0 = .ok (.iconst 0, 1) := by decide +kernel
theorem d_RC_twice_1 : decode (am_Mof y_RC_twice).1 1 = .ok (.istore_n 2, 1) := by decide +kernel
theorem d_RC_twice_2 : decode (am_Mof y_RC_twice).1 2 = .ok (.iconst 0, 1) := by decide +kernel
theorem d_RC_twice_3 : decode (am_Mof y_RC_twice).1 3 = .ok (.istore_n 3, 1) := by decide +kernel
theorem d_RC_twice_4 : decode (am_Mof y_RC_twice).1 4 = .ok (.iload_n 3, 1) := by decide +kernel
theorem d_RC_twice_5 : decode (am_Mof y_RC_twice).1 5 = .ok (.bipush 20, 2) := by decide +kernel
theorem d_RC_twice_7 : decode (am_Mof y_RC_twice).1 7 = .ok (.if_icmp .ge 35, 3) := by decide +kernel
theorem d_RC_twice_10 : decode (am_Mof y_RC_twice).1 10 = .ok (.aload_n 0, 1) := by decide +kernel
theorem d_RC_twice_11 : decode (am_Mof y_RC_twice).1 11 = .ok (.getfield 10, 3) := by decide +kernel
theorem d_RC_twice_14 : decode (am_Mof y_RC_twice).1 14 = .ok (.iload_n 3, 1) := by decide +kernel
theorem d_RC_twice_15 : decode (am_Mof y_RC_twice).1 15 = .ok (.iconst 4, 1) := by decide +kernel
theorem d_RC_twice_16 : decode (am_Mof y_RC_twice).1 16 = .ok (.idiv, 1) := by decide +kernel
theorem d_RC_twice_17 : decode (am_Mof y_RC_twice).1 17 = .ok (.iload_n 3, 1) := by decide +kernel
theorem d_RC_twice_18 : decode (am_Mof y_RC_twice).1 18 = .ok (.iconst 4, 1) := by decide +kernel
theorem d_RC_twice_19 : decode (am_Mof y_RC_twice).1 19 = .ok (.irem, 1) := by decide +kernel
theorem d_RC_twice_20 : decode (am_Mof y_RC_twice).1 20 = .ok (.invokevirtual 131, 3) := by decide +kernel
theorem d_RC_twice_23 : decode (am_Mof y_RC_twice).1 23 = .ok (.ifCond .eq 13, 3) := by decide +kernel
theorem d_RC_twice_26 : decode (am_Mof y_RC_twice).1 26 = .ok (.iload_n 2, 1) := by decide +kernel
theorem d_RC_twice_27 : decode (am_Mof y_RC_twice).1 27 = .ok (.iload_n 1, 1) := by decide +kernel
theorem d_RC_twice_28 : decode (am_Mof y_RC_twice).1 28 = .ok (.if_icmp .ne 5, 3) := by decide +kernel
theorem d_RC_twice_31 : decode (am_Mof y_RC_twice).1 31 = .ok (.iload_n 3, 1) := by decide +kernel
theorem d_RC_twice_32 : decode (am_Mof y_RC_twice).1 32 = .ok (.ireturn, 1) := by decide +kernel
theorem d_RC_twice_33 : decode (am_Mof y_RC_twice).1 33 = .ok (.iinc 2 1, 3) := by decide +kernel
theorem d_RC_twice_36 : decode (am_Mof y_RC_twice).1 36 = .ok (.iinc 3 1, 3) := by decide +kernel
theorem d_RC_twice_39 : decode (am_Mof y_RC_twice).1 39 = .ok (.goto (-35), 3) := by decide +kernel
theorem d_RC_twice_42 : decode (am_Mof y_RC_twice).1 42 = .ok (.iconst (-1), 1) := by decide +kernel
theorem d_RC_twice_43 : decode (am_Mof y_RC_twice).1 43 = .ok (.ireturn, 1) := by decide +kernel
theorem d_RC_told_0 : decode (am_Mof y_RC_told).1 0 = .ok (.iconst 0, 1) := by decide +kernel
theorem d_RC_told_1 : decode (am_Mof y_RC_told).1 1 = .ok (.istore_n 2, 1) := by decide +kernel
theorem d_RC_told_2 : decode (am_Mof y_RC_told).1 2 = .ok (.iconst 0, 1) := by decide +kernel
theorem d_RC_told_3 : decode (am_Mof y_RC_told).1 3 = .ok (.istore_n 3, 1) := by decide +kernel
theorem d_RC_told_4 : decode (am_Mof y_RC_told).1 4 = .ok (.iload_n 3, 1) := by decide +kernel
theorem d_RC_told_5 : decode (am_Mof y_RC_told).1 5 = .ok (.iconst 5, 1) := by decide +kernel
theorem d_RC_told_6 : decode (am_Mof y_RC_told).1 6 = .ok (.if_icmp .ge 30, 3) := by decide +kernel
theorem d_RC_told_9 : decode (am_Mof y_RC_told).1 9 = .ok (.aload_n 0, 1) := by decide +kernel
theorem d_RC_told_10 : decode (am_Mof y_RC_told).1 10 = .ok (.getfield 33, 3) := by decide +kernel
theorem d_RC_told_13 : decode (am_Mof y_RC_told).1 13 = .ok (.iload_n 3, 1) := by decide +kernel
theorem d_RC_told_14 : decode (am_Mof y_RC_told).1 14 = .ok (.invokevirtual 134, 3) := by decide +kernel
theorem d_RC_told_17 : decode (am_Mof y_RC_told).1 17 = .ok (.ifCond .eq 13, 3) := by decide +kernel
theorem d_RC_told_20 : decode (am_Mof y_RC_told).1 20 = .ok (.iload_n 2, 1) := by decide +kernel
theorem d_RC_told_21 : decode (am_Mof y_RC_told).1 21 = .ok (.iload_n 1, 1) := by decide +kernel
theorem d_RC_told_22 : decode (am_Mof y_RC_told).1 22 = .ok (.if_icmp .ne 5, 3) := by decide +kernel
theorem d_RC_told_25 : decode (am_Mof y_RC_told).1 25 = .ok (.iload_n 3, 1) := by decide +kernel
theorem d_RC_told_26 : decode (am_Mof y_RC_told).1 26 = .ok (.ireturn, 1) := by decide +kernel
theorem d_RC_told_27 : decode (am_Mof y_RC_told).1 27 = .ok (.iinc 2 1, 3) := by decide +kernel
theorem d_RC_told_30 : decode (am_Mof y_RC_told).1 30 = .ok (.iinc 3 1, 3) := by decide +kernel
theorem d_RC_told_33 : decode (am_Mof y_RC_told).1 33 = .ok (.goto (-29), 3) := by decide +kernel
theorem d_RC_told_36 : decode (am_Mof y_RC_told).1 36 = .ok (.iconst (-1), 1) := by decide +kernel
theorem d_RC_told_37 : decode (am_Mof y_RC_told).1 37 = .ok (.ireturn, 1) := by decide +kernel
theorem d_RC_once_0 : decode (am_Mof y_RC_once).1 0 = .ok (.aload_n 0, 1) := by decide +kernel
theorem d_RC_once_1 : decode (am_Mof y_RC_once).1 1 = .ok (.getfield 33, 3) := by decide +kernel
theorem d_RC_once_4 : decode (am_Mof y_RC_once).1 4 = .ok (.invokevirtual 106, 3) := by decide +kernel
theorem d_RC_once_7 : decode (am_Mof y_RC_once).1 7 = .ok (.ifCond .eq 13, 3) := by decide +kernel
theorem d_RC_once_10 : decode (am_Mof y_RC_once).1 10 = .ok (.aload_n 0, 1) := by decide +kernel
theorem d_RC_once_11 : decode (am_Mof y_RC_once).1 11 = .ok (.getfield 33, 3) := by decide +kernel
theorem d_RC_once_14 : decode (am_Mof y_RC_once).1 14 = .ok (.invokevirtual 137, 3) := by decide +kernel
theorem d_RC_once_17 : decode (am_Mof y_RC_once).1 17 = .ok (.ifCond .eq 7, 3) := by decide +kernel
theorem d_RC_once_20 : decode (am_Mof y_RC_once).1 20 = .ok (.iconst 1, 1) := by decide +kernel
theorem d_RC_once_21 : decode (am_Mof y_RC_once).1 21 = .ok (.goto 4, 3) := by decide +kernel
theorem d_RC_once_24 : decode (am_Mof y_RC_once).1 24 = .ok (.iconst 0, 1) := by decide +kernel
theorem d_RC_once_25 : decode (am_Mof y_RC_once).1 25 = .ok (.ireturn, 1) := by decide +kernel
theorem d_RC_claim_0 : decode (am_Mof y_RC_claim).1 0 = .ok (.aload_n 0, 1) := by decide +kernel
theorem d_RC_claim_1 : decode (am_Mof y_RC_claim).1 1 = .ok (.iload_n 1, 1) := by decide +kernel
theorem d_RC_claim_2 : decode (am_Mof y_RC_claim).1 2 = .ok (.iload_n 2, 1) := by decide +kernel
theorem d_RC_claim_3 : decode (am_Mof y_RC_claim).1 3 = .ok (.iload_n 3, 1) := by decide +kernel
theorem d_RC_claim_4 : decode (am_Mof y_RC_claim).1 4 = .ok (.invokevirtual 140, 3) := by decide +kernel
theorem d_RC_claim_7 : decode (am_Mof y_RC_claim).1 7 = .ok (.ifCond .eq 15, 3) := by decide +kernel
theorem d_RC_claim_10 : decode (am_Mof y_RC_claim).1 10 = .ok (.lload 4, 2) := by decide +kernel
theorem d_RC_claim_12 : decode (am_Mof y_RC_claim).1 12 = .ok (.lconst 1, 1) := by decide +kernel
theorem d_RC_claim_13 : decode (am_Mof y_RC_claim).1 13 = .ok (.ldc2_w 143, 3) := by decide +kernel
theorem d_RC_claim_16 : decode (am_Mof y_RC_claim).1 16 = .ok (.invokestatic 86, 3) := by decide +kernel
theorem d_RC_claim_19 : decode (am_Mof y_RC_claim).1 19 = .ok (.ifCond .ne 7, 3) := by decide +kernel
theorem d_RC_claim_22 : decode (am_Mof y_RC_claim).1 22 = .ok (.ldc2_w 113, 3) := by decide +kernel
theorem d_RC_claim_25 : decode (am_Mof y_RC_claim).1 25 = .ok (.lreturn, 1) := by decide +kernel
theorem d_RC_claim_26 : decode (am_Mof y_RC_claim).1 26 = .ok (.aload_n 0, 1) := by decide +kernel
theorem d_RC_claim_27 : decode (am_Mof y_RC_claim).1 27 = .ok (.getfield 33, 3) := by decide +kernel
theorem d_RC_claim_30 : decode (am_Mof y_RC_claim).1 30 = .ok (.iload_n 1, 1) := by decide +kernel
theorem d_RC_claim_31 : decode (am_Mof y_RC_claim).1 31 = .ok (.iload_n 2, 1) := by decide +kernel
theorem d_RC_claim_32 : decode (am_Mof y_RC_claim).1 32 = .ok (.iload_n 3, 1) := by decide +kernel
theorem d_RC_claim_33 : decode (am_Mof y_RC_claim).1 33 = .ok (.lload 4, 2) := by decide +kernel
theorem d_RC_claim_35 : decode (am_Mof y_RC_claim).1 35 = .ok (.invokevirtual 145, 3) := by decide +kernel
theorem d_RC_claim_38 : decode (am_Mof y_RC_claim).1 38 = .ok (.lreturn, 1) := by decide +kernel
theorem d_RC_hasStock_0 : decode (am_Mof y_RC_hasStock).1 0 = .ok (.aload_n 0, 1) := by decide +kernel
theorem d_RC_hasStock_1 : decode (am_Mof y_RC_hasStock).1 1 = .ok (.getfield 33, 3) := by decide +kernel
theorem d_RC_hasStock_4 : decode (am_Mof y_RC_hasStock).1 4 = .ok (.invokevirtual 106, 3) := by decide +kernel
theorem d_RC_hasStock_7 : decode (am_Mof y_RC_hasStock).1 7 = .ok (.ifCond .eq 28, 3) := by decide +kernel
theorem d_RC_hasStock_10 : decode (am_Mof y_RC_hasStock).1 10 = .ok (.iload_n 1, 1) := by decide +kernel
theorem d_RC_hasStock_11 : decode (am_Mof y_RC_hasStock).1 11 = .ok (.invokestatic 81, 3) := by decide +kernel
theorem d_RC_hasStock_14 : decode (am_Mof y_RC_hasStock).1 14 = .ok (.ifCond .eq 21, 3) := by decide +kernel
theorem d_RC_hasStock_17 : decode (am_Mof y_RC_hasStock).1 17 = .ok (.iload_n 2, 1) := by decide +kernel
theorem d_RC_hasStock_18 : decode (am_Mof y_RC_hasStock).1 18 = .ok (.invokestatic 67, 3) := by decide +kernel
theorem d_RC_hasStock_21 : decode (am_Mof y_RC_hasStock).1 21 = .ok (.ifCond .eq 14, 3) := by decide +kernel
theorem d_RC_hasStock_24 : decode (am_Mof y_RC_hasStock).1 24 = .ok (.iload_n 3, 1) := by decide +kernel
theorem d_RC_hasStock_25 : decode (am_Mof y_RC_hasStock).1 25 = .ok (.invokestatic 78, 3) := by decide +kernel
theorem d_RC_hasStock_28 : decode (am_Mof y_RC_hasStock).1 28 = .ok (.ifCond .eq 7, 3) := by decide +kernel
theorem d_RC_hasStock_31 : decode (am_Mof y_RC_hasStock).1 31 = .ok (.iconst 1, 1) := by decide +kernel
theorem d_RC_hasStock_32 : decode (am_Mof y_RC_hasStock).1 32 = .ok (.goto 4, 3) := by decide +kernel
theorem d_RC_hasStock_35 : decode (am_Mof y_RC_hasStock).1 35 = .ok (.iconst 0, 1) := by decide +kernel
theorem d_RC_hasStock_36 : decode (am_Mof y_RC_hasStock).1 36 = .ok (.ireturn, 1) := by decide +kernel
theorem d_RC_left_0 : decode (am_Mof y_RC_left).1 0 = .ok (.aload_n 0, 1) := by decide +kernel
theorem d_RC_left_1 : decode (am_Mof y_RC_left).1 1 = .ok (.iload_n 1, 1) := by decide +kernel
theorem d_RC_left_2 : decode (am_Mof y_RC_left).1 2 = .ok (.iload_n 2, 1) := by decide +kernel
theorem d_RC_left_3 : decode (am_Mof y_RC_left).1 3 = .ok (.iload_n 3, 1) := by decide +kernel
theorem d_RC_left_4 : decode (am_Mof y_RC_left).1 4 = .ok (.invokevirtual 140, 3) := by decide +kernel
theorem d_RC_left_7 : decode (am_Mof y_RC_left).1 7 = .ok (.ifCond .eq 16, 3) := by decide +kernel
theorem d_RC_left_10 : decode (am_Mof y_RC_left).1 10 = .ok (.aload_n 0, 1) := by decide +kernel
theorem d_RC_left_11 : decode (am_Mof y_RC_left).1 11 = .ok (.getfield 33, 3) := by decide +kernel
theorem d_RC_left_14 : decode (am_Mof y_RC_left).1 14 = .ok (.iload_n 1, 1) := by decide +kernel
theorem d_RC_left_15 : decode (am_Mof y_RC_left).1 15 = .ok (.iload_n 2, 1) := by decide +kernel
theorem d_RC_left_16 : decode (am_Mof y_RC_left).1 16 = .ok (.iload_n 3, 1) := by decide +kernel
theorem d_RC_left_17 : decode (am_Mof y_RC_left).1 17 = .ok (.invokevirtual 149, 3) := by decide +kernel
theorem d_RC_left_20 : decode (am_Mof y_RC_left).1 20 = .ok (.goto 6, 3) := by decide +kernel
theorem d_RC_left_23 : decode (am_Mof y_RC_left).1 23 = .ok (.ldc2_w 113, 3) := by decide +kernel
theorem d_RC_left_26 : decode (am_Mof y_RC_left).1 26 = .ok (.lreturn, 1) := by decide +kernel
theorem d_RC_open_0 : decode (am_Mof y_RC_open).1 0 = .ok (.aload_n 0, 1) := by decide +kernel
theorem d_RC_open_1 : decode (am_Mof y_RC_open).1 1 = .ok (.getfield 33, 3) := by decide +kernel
theorem d_RC_open_4 : decode (am_Mof y_RC_open).1 4 = .ok (.invokevirtual 106, 3) := by decide +kernel
theorem d_RC_open_7 : decode (am_Mof y_RC_open).1 7 = .ok (.ifCond .eq 25, 3) := by decide +kernel
theorem d_RC_open_10 : decode (am_Mof y_RC_open).1 10 = .ok (.iload_n 1, 1) := by decide +kernel
theorem d_RC_open_11 : decode (am_Mof y_RC_open).1 11 = .ok (.invokestatic 78, 3) := by decide +kernel
theorem d_RC_open_14 : decode (am_Mof y_RC_open).1 14 = .ok (.ifCond .eq 18, 3) := by decide +kernel
theorem d_RC_open_17 : decode (am_Mof y_RC_open).1 17 = .ok (.iload_n 2, 1) := by decide +kernel
theorem d_RC_open_18 : decode (am_Mof y_RC_open).1 18 = .ok (.invokestatic 78, 3) := by decide +kernel
theorem d_RC_open_21 : decode (am_Mof y_RC_open).1 21 = .ok (.ifCond .eq 11, 3) := by decide +kernel
theorem d_RC_open_24 : decode (am_Mof y_RC_open).1 24 = .ok (.iload 4, 2) := by decide +kernel
theorem d_RC_open_26 : decode (am_Mof y_RC_open).1 26 = .ok (.invokestatic 110, 3) := by decide +kernel
theorem d_RC_open_29 : decode (am_Mof y_RC_open).1 29 = .ok (.ifCond .ne 5, 3) := by decide +kernel
theorem d_RC_open_32 : decode (am_Mof y_RC_open).1 32 = .ok (.lconst 0, 1) := by decide +kernel
theorem d_RC_open_33 : decode (am_Mof y_RC_open).1 33 = .ok (.lreturn, 1) := by decide +kernel
theorem d_RC_open_34 : decode (am_Mof y_RC_open).1 34 = .ok (.iload_n 3, 1) := by decide +kernel
theorem d_RC_open_35 : decode (am_Mof y_RC_open).1 35 = .ok (.ifCond .lt 16, 3) := by decide +kernel
theorem d_RC_open_38 : decode (am_Mof y_RC_open).1 38 = .ok (.aload_n 0, 1) := by decide +kernel
theorem d_RC_open_39 : decode (am_Mof y_RC_open).1 39 = .ok (.getfield 10, 3) := by decide +kernel
theorem d_RC_open_42 : decode (am_Mof y_RC_open).1 42 = .ok (.iload_n 3, 1) := by decide +kernel
theorem d_RC_open_43 : decode (am_Mof y_RC_open).1 43 = .ok (.iconst 4, 1) := by decide +kernel
theorem d_RC_open_44 : decode (am_Mof y_RC_open).1 44 = .ok (.idiv, 1) := by decide +kernel
theorem d_RC_open_45 : decode (am_Mof y_RC_open).1 45 = .ok (.invokevirtual 59, 3) := by decide +kernel
theorem d_RC_open_48 : decode (am_Mof y_RC_open).1 48 = .ok (.ifCond .ne 5, 3) := by decide +kernel
theorem d_RC_open_51 : decode (am_Mof y_RC_open).1 51 = .ok (.lconst 0, 1) := by decide +kernel
theorem d_RC_open_52 : decode (am_Mof y_RC_open).1 52 = .ok (.lreturn, 1) := by decide +kernel
theorem d_RC_open_53 : decode (am_Mof y_RC_open).1 53 = .ok (.iload_n 3, 1) := by decide +kernel
theorem d_RC_open_54 : decode (am_Mof y_RC_open).1 54 = .ok (.iconst 4, 1) := by decide +kernel
theorem d_RC_open_55 : decode (am_Mof y_RC_open).1 55 = .ok (.irem, 1) := by decide +kernel
theorem d_RC_open_56 : decode (am_Mof y_RC_open).1 56 = .ok (.istore 5, 2) := by decide +kernel
theorem d_RC_open_58 : decode (am_Mof y_RC_open).1 58 = .ok (.aload_n 0, 1) := by decide +kernel
theorem d_RC_open_59 : decode (am_Mof y_RC_open).1 59 = .ok (.getfield 33, 3) := by decide +kernel
theorem d_RC_open_62 : decode (am_Mof y_RC_open).1 62 = .ok (.iload_n 3, 1) := by decide +kernel
theorem d_RC_open_63 : decode (am_Mof y_RC_open).1 63 = .ok (.iconst 4, 1) := by decide +kernel
theorem d_RC_open_64 : decode (am_Mof y_RC_open).1 64 = .ok (.idiv, 1) := by decide +kernel
theorem d_RC_open_65 : decode (am_Mof y_RC_open).1 65 = .ok (.iload 5, 2) := by decide +kernel
theorem d_RC_open_67 : decode (am_Mof y_RC_open).1 67 = .ok (.iload_n 1, 1) := by decide +kernel
theorem d_RC_open_68 : decode (am_Mof y_RC_open).1 68 = .ok (.iload_n 2, 1) := by decide +kernel
theorem d_RC_open_69 : decode (am_Mof y_RC_open).1 69 = .ok (.invokevirtual 152, 3) := by decide +kernel
theorem d_RC_open_72 : decode (am_Mof y_RC_open).1 72 = .ok (.lstore 6, 2) := by decide +kernel
theorem d_RC_open_74 : decode (am_Mof y_RC_open).1 74 = .ok (.lload 6, 2) := by decide +kernel
theorem d_RC_open_76 : decode (am_Mof y_RC_open).1 76 = .ok (.aload_n 0, 1) := by decide +kernel
theorem d_RC_open_77 : decode (am_Mof y_RC_open).1 77 = .ok (.getfield 33, 3) := by decide +kernel
theorem d_RC_open_80 : decode (am_Mof y_RC_open).1 80 = .ok (.iload 5, 2) := by decide +kernel
theorem d_RC_open_82 : decode (am_Mof y_RC_open).1 82 = .ok (.invokevirtual 119, 3) := by decide +kernel
theorem d_RC_open_85 : decode (am_Mof y_RC_open).1 85 = .ok (.iload 4, 2) := by decide +kernel
theorem d_RC_open_87 : decode (am_Mof y_RC_open).1 87 = .ok (.invokestatic 123, 3) := by decide +kernel
theorem d_RC_open_90 : decode (am_Mof y_RC_open).1 90 = .ok (.lreturn, 1) := by decide +kernel
theorem d_RC_audit_0 : decode (am_Mof y_RC_audit).1 0 = .ok (.iload_n 3, 1) := by decide +kernel
theorem d_RC_audit_1 : decode (am_Mof y_RC_audit).1 1 = .ok (.iconst 1, 1) := by decide +kernel
theorem d_RC_audit_2 : decode (am_Mof y_RC_audit).1 2 = .ok (.if_icmp .lt 14, 3) := by decide +kernel
theorem d_RC_audit_5 : decode (am_Mof y_RC_audit).1 5 = .ok (.iload_n 3, 1) := by decide +kernel
theorem d_RC_audit_6 : decode (am_Mof y_RC_audit).1 6 = .ok (.aload_n 0, 1) := by decide +kernel
theorem d_RC_audit_7 : decode (am_Mof y_RC_audit).1 7 = .ok (.getfield 19, 3) := by decide +kernel
theorem d_RC_audit_10 : decode (am_Mof y_RC_audit).1 10 = .ok (.invokevirtual 156, 3) := by decide +kernel
theorem d_RC_audit_13 : decode (am_Mof y_RC_audit).1 13 = .ok (.if_icmp .le 5, 3) := by decide +kernel
theorem d_RC_audit_16 : decode (am_Mof y_RC_audit).1 16 = .ok (.iconst (-1), 1) := by decide +kernel
theorem d_RC_audit_17 : decode (am_Mof y_RC_audit).1 17 = .ok (.ireturn, 1) := by decide +kernel
theorem d_RC_audit_18 : decode (am_Mof y_RC_audit).1 18 = .ok (.aload_n 0, 1) := by decide +kernel
theorem d_RC_audit_19 : decode (am_Mof y_RC_audit).1 19 = .ok (.getfield 40, 3) := by decide +kernel
theorem d_RC_audit_22 : decode (am_Mof y_RC_audit).1 22 = .ok (.lload_n 1, 1) := by decide +kernel
theorem d_RC_audit_23 : decode (am_Mof y_RC_audit).1 23 = .ok (.iload_n 3, 1) := by decide +kernel
theorem d_RC_audit_24 : decode (am_Mof y_RC_audit).1 24 = .ok (.aload_n 0, 1) := by decide +kernel
theorem d_RC_audit_25 : decode (am_Mof y_RC_audit).1 25 = .ok (.getfield 19, 3) := by decide +kernel
theorem d_RC_audit_28 : decode (am_Mof y_RC_audit).1 28 = .ok (.invokevirtual 156, 3) := by decide +kernel
theorem d_RC_audit_31 : decode (am_Mof y_RC_audit).1 31 = .ok (.invokevirtual 159, 3) := by decide +kernel
theorem d_RC_audit_34 : decode (am_Mof y_RC_audit).1 34 = .ok (.iload_n 3, 1) := by decide +kernel
theorem d_RC_audit_35 : decode (am_Mof y_RC_audit).1 35 = .ok (.ireturn, 1) := by decide +kernel
theorem d_RC_drawn_0 : decode (am_Mof y_RC_drawn).1 0 = .ok (.aload_n 0, 1) := by decide +kernel
theorem d_RC_drawn_1 : decode (am_Mof y_RC_drawn).1 1 = .ok (.getfield 40, 3) := by decide +kernel
theorem d_RC_drawn_4 : decode (am_Mof y_RC_drawn).1 4 = .ok (.iload_n 1, 1) := by decide +kernel
theorem d_RC_drawn_5 : decode (am_Mof y_RC_drawn).1 5 = .ok (.invokevirtual 162, 3) := by decide +kernel
theorem d_RC_drawn_8 : decode (am_Mof y_RC_drawn).1 8 = .ok (.ireturn, 1) := by decide +kernel
theorem d_RC_unit_0 : decode (am_Mof y_RC_unit).1 0 = .ok (.iload_n 1, 1) := by decide +kernel
theorem d_RC_unit_1 : decode (am_Mof y_RC_unit).1 1 = .ok (.ifCond .lt 25, 3) := by decide +kernel
theorem d_RC_unit_4 : decode (am_Mof y_RC_unit).1 4 = .ok (.iload_n 1, 1) := by decide +kernel
theorem d_RC_unit_5 : decode (am_Mof y_RC_unit).1 5 = .ok (.sipush 255, 3) := by decide +kernel
theorem d_RC_unit_8 : decode (am_Mof y_RC_unit).1 8 = .ok (.if_icmp .gt 18, 3) := by decide +kernel
theorem d_RC_unit_11 : decode (am_Mof y_RC_unit).1 11 = .ok (.aload_n 0, 1) := by decide +kernel
theorem d_RC_unit_12 : decode (am_Mof y_RC_unit).1 12 = .ok (.getfield 47, 3) := by decide +kernel
theorem d_RC_unit_15 : decode (am_Mof y_RC_unit).1 15 = .ok (.iload_n 1, 1) := by decide +kernel
theorem d_RC_unit_16 : decode (am_Mof y_RC_unit).1 16 = .ok (.invokevirtual 166, 3) := by decide +kernel
theorem d_RC_unit_19 : decode (am_Mof y_RC_unit).1 19 = .ok (.ifCond .eq 7, 3) := by decide +kernel
theorem d_RC_unit_22 : decode (am_Mof y_RC_unit).1 22 = .ok (.iconst 1, 1) := by decide +kernel
theorem d_RC_unit_23 : decode (am_Mof y_RC_unit).1 23 = .ok (.goto 4, 3) := by decide +kernel
theorem d_RC_unit_26 : decode (am_Mof y_RC_unit).1 26 = .ok (.iconst 0, 1) := by decide +kernel
theorem d_RC_unit_27 : decode (am_Mof y_RC_unit).1 27 = .ok (.ireturn, 1) := by decide +kernel
theorem d_RC_form_0 : decode (am_Mof y_RC_form).1 0 = .ok (.iload_n 1, 1) := by decide +kernel
theorem d_RC_form_1 : decode (am_Mof y_RC_form).1 1 = .ok (.ifCond .ge 7, 3) := by decide +kernel
theorem d_RC_form_4 : decode (am_Mof y_RC_form).1 4 = .ok (.iconst (-1), 1) := by decide +kernel
theorem d_RC_form_5 : decode (am_Mof y_RC_form).1 5 = .ok (.goto 15, 3) := by decide +kernel
theorem d_RC_form_8 : decode (am_Mof y_RC_form).1 8 = .ok (.aload_n 0, 1) := by decide +kernel
theorem d_RC_form_9 : decode (am_Mof y_RC_form).1 9 = .ok (.getfield 47, 3) := by decide +kernel
theorem d_RC_form_12 : decode (am_Mof y_RC_form).1 12 = .ok (.iload_n 1, 1) := by decide +kernel
theorem d_RC_form_13 : decode (am_Mof y_RC_form).1 13 = .ok (.aload_n 0, 1) := by decide +kernel
theorem d_RC_form_14 : decode (am_Mof y_RC_form).1 14 = .ok (.getfield 33, 3) := by decide +kernel
theorem d_RC_form_17 : decode (am_Mof y_RC_form).1 17 = .ok (.invokevirtual 168, 3) := by decide +kernel
theorem d_RC_form_20 : decode (am_Mof y_RC_form).1 20 = .ok (.ireturn, 1) := by decide +kernel
