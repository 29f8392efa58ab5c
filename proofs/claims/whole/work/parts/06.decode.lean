theorem d_J_fill_0 : decode prog_17_method_103_code 0 = .ok (.iconst 0, 1) := by decide +kernel
theorem d_J_fill_1 : decode prog_17_method_103_code 1 = .ok (.istore_n 2, 1) := by decide +kernel
theorem d_J_fill_2 : decode prog_17_method_103_code 2 = .ok (.aload_n 0, 1) := by decide +kernel
theorem d_J_fill_3 : decode prog_17_method_103_code 3 = .ok (.arraylength, 1) := by decide +kernel
theorem d_J_fill_4 : decode prog_17_method_103_code 4 = .ok (.istore_n 3, 1) := by decide +kernel
theorem d_J_fill_5 : decode prog_17_method_103_code 5 = .ok (.iload_n 2, 1) := by decide +kernel
theorem d_J_fill_6 : decode prog_17_method_103_code 6 = .ok (.iload_n 3, 1) := by decide +kernel
theorem d_J_fill_7 : decode prog_17_method_103_code 7 = .ok (.if_icmp .ge 13, 3) := by decide +kernel
theorem d_J_fill_10 : decode prog_17_method_103_code 10 = .ok (.aload_n 0, 1) := by decide +kernel
theorem d_J_fill_11 : decode prog_17_method_103_code 11 = .ok (.iload_n 2, 1) := by decide +kernel
theorem d_J_fill_12 : decode prog_17_method_103_code 12 = .ok (.iload_n 1, 1) := by decide +kernel
theorem d_J_fill_13 : decode prog_17_method_103_code 13 = .ok (.iastore, 1) := by decide +kernel
theorem d_J_fill_14 : decode prog_17_method_103_code 14 = .ok (.iinc 2 1, 3) := by decide +kernel
theorem d_J_fill_17 : decode prog_17_method_103_code 17 = .ok (.goto (-12), 3) := by decide +kernel
theorem d_J_fill_20 : decode prog_17_method_103_code 20 = .ok (.return_, 1) := by decide +kernel
theorem d_J_bitCount_0 : decode prog_11_method_49_code 0 = .ok (.iload_n 0, 1) := by decide +kernel
theorem d_J_bitCount_1 : decode prog_11_method_49_code 1 = .ok (.iload_n 0, 1) := by decide +kernel
theorem d_J_bitCount_2 : decode prog_11_method_49_code 2 = .ok (.iconst 1, 1) := by decide +kernel
theorem d_J_bitCount_3 : decode prog_11_method_49_code 3 = .ok (.iushr, 1) := by decide +kernel
theorem d_J_bitCount_4 : decode prog_11_method_49_code 4 = .ok (.ldc_w 265, 3) := by decide +kernel
theorem d_J_bitCount_7 : decode prog_11_method_49_code 7 = .ok (.iand, 1) := by decide +kernel
theorem d_J_bitCount_8 : decode prog_11_method_49_code 8 = .ok (.isub, 1) := by decide +kernel
theorem d_J_bitCount_9 : decode prog_11_method_49_code 9 = .ok (.istore_n 0, 1) := by decide +kernel
theorem d_J_bitCount_10 : decode prog_11_method_49_code 10 = .ok (.iload_n 0, 1) := by decide +kernel
theorem d_J_bitCount_11 : decode prog_11_method_49_code 11 = .ok (.ldc_w 266, 3) := by decide +kernel
theorem d_J_bitCount_14 : decode prog_11_method_49_code 14 = .ok (.iand, 1) := by decide +kernel
theorem d_J_bitCount_15 : decode prog_11_method_49_code 15 = .ok (.iload_n 0, 1) := by decide +kernel
theorem d_J_bitCount_16 : decode prog_11_method_49_code 16 = .ok (.iconst 2, 1) := by decide +kernel
theorem d_J_bitCount_17 : decode prog_11_method_49_code 17 = .ok (.iushr, 1) := by decide +kernel
theorem d_J_bitCount_18 : decode prog_11_method_49_code 18 = .ok (.ldc_w 266, 3) := by decide +kernel
theorem d_J_bitCount_21 : decode prog_11_method_49_code 21 = .ok (.iand, 1) := by decide +kernel
theorem d_J_bitCount_22 : decode prog_11_method_49_code 22 = .ok (.iadd, 1) := by decide +kernel
theorem d_J_bitCount_23 : decode prog_11_method_49_code 23 = .ok (.istore_n 0, 1) := by decide +kernel
theorem d_J_bitCount_24 : decode prog_11_method_49_code 24 = .ok (.iload_n 0, 1) := by decide +kernel
theorem d_J_bitCount_25 : decode prog_11_method_49_code 25 = .ok (.iload_n 0, 1) := by decide +kernel
theorem d_J_bitCount_26 : decode prog_11_method_49_code 26 = .ok (.iconst 4, 1) := by decide +kernel
theorem d_J_bitCount_27 : decode prog_11_method_49_code 27 = .ok (.iushr, 1) := by decide +kernel
theorem d_J_bitCount_28 : decode prog_11_method_49_code 28 = .ok (.iadd, 1) := by decide +kernel
theorem d_J_bitCount_29 : decode prog_11_method_49_code 29 = .ok (.ldc_w 267, 3) := by decide +kernel
theorem d_J_bitCount_32 : decode prog_11_method_49_code 32 = .ok (.iand, 1) := by decide +kernel
theorem d_J_bitCount_33 : decode prog_11_method_49_code 33 = .ok (.istore_n 0, 1) := by decide +kernel
theorem d_J_bitCount_34 : decode prog_11_method_49_code 34 = .ok (.iload_n 0, 1) := by decide +kernel
theorem d_J_bitCount_35 : decode prog_11_method_49_code 35 = .ok (.iload_n 0, 1) := by decide +kernel
theorem d_J_bitCount_36 : decode prog_11_method_49_code 36 = .ok (.bipush 8, 2) := by decide +kernel
theorem d_J_bitCount_38 : decode prog_11_method_49_code 38 = .ok (.iushr, 1) := by decide +kernel
theorem d_J_bitCount_39 : decode prog_11_method_49_code 39 = .ok (.iadd, 1) := by decide +kernel
theorem d_J_bitCount_40 : decode prog_11_method_49_code 40 = .ok (.istore_n 0, 1) := by decide +kernel
theorem d_J_bitCount_41 : decode prog_11_method_49_code 41 = .ok (.iload_n 0, 1) := by decide +kernel
theorem d_J_bitCount_42 : decode prog_11_method_49_code 42 = .ok (.iload_n 0, 1) := by decide +kernel
theorem d_J_bitCount_43 : decode prog_11_method_49_code 43 = .ok (.bipush 16, 2) := by decide +kernel
theorem d_J_bitCount_45 : decode prog_11_method_49_code 45 = .ok (.iushr, 1) := by decide +kernel
theorem d_J_bitCount_46 : decode prog_11_method_49_code 46 = .ok (.iadd, 1) := by decide +kernel
theorem d_J_bitCount_47 : decode prog_11_method_49_code 47 = .ok (.istore_n 0, 1) := by decide +kernel
theorem d_J_bitCount_48 : decode prog_11_method_49_code 48 = .ok (.iload_n 0, 1) := by decide +kernel
theorem d_J_bitCount_49 : decode prog_11_method_49_code 49 = .ok (.bipush 63, 2) := by decide +kernel
theorem d_J_bitCount_51 : decode prog_11_method_49_code 51 = .ok (.iand, 1) := by decide +kernel
theorem d_J_bitCount_52 : decode prog_11_method_49_code 52 = .ok (.ireturn, 1) := by decide +kernel
theorem d_X_isWithin_0 : decode prog_1_method_35_code 0 = .ok (.iload_n 0, 1) := by decide +kernel
theorem d_X_isWithin_1 : decode prog_1_method_35_code 1 = .ok (.iload_n 1, 1) := by decide +kernel
theorem d_X_isWithin_2 : decode prog_1_method_35_code 2 = .ok (.if_icmp .lt 12, 3) := by decide +kernel
theorem d_X_isWithin_5 : decode prog_1_method_35_code 5 = .ok (.iload_n 0, 1) := by decide +kernel
theorem d_X_isWithin_6 : decode prog_1_method_35_code 6 = .ok (.iload_n 2, 1) := by decide +kernel
theorem d_X_isWithin_7 : decode prog_1_method_35_code 7 = .ok (.if_icmp .gt 7, 3) := by decide +kernel
theorem d_X_isWithin_10 : decode prog_1_method_35_code 10 = .ok (.iconst 1, 1) := by decide +kernel
theorem d_X_isWithin_11 : decode prog_1_method_35_code 11 = .ok (.goto 4, 3) := by decide +kernel
theorem d_X_isWithin_14 : decode prog_1_method_35_code 14 = .ok (.iconst 0, 1) := by decide +kernel
theorem d_X_isWithin_15 : decode prog_1_method_35_code 15 = .ok (.ireturn, 1) := by decide +kernel
theorem d_T_lengthOf_0 : decode prog_5_method_2_code 0 = .ok (.aload_n 0, 1) := by decide +kernel
theorem d_T_lengthOf_1 : decode prog_5_method_2_code 1 = .ok (.getfield 15, 3) := by decide +kernel
theorem d_T_lengthOf_4 : decode prog_5_method_2_code 4 = .ok (.iload_n 1, 1) := by decide +kernel
theorem d_T_lengthOf_5 : decode prog_5_method_2_code 5 = .ok (.iaload, 1) := by decide +kernel
theorem d_T_lengthOf_6 : decode prog_5_method_2_code 6 = .ok (.ireturn, 1) := by decide +kernel
theorem d_T_append_0 : decode prog_5_method_4_code 0 = .ok (.aload_n 0, 1) := by decide +kernel
theorem d_T_append_1 : decode prog_5_method_4_code 1 = .ok (.getfield 9, 3) := by decide +kernel
theorem d_T_append_4 : decode prog_5_method_4_code 4 = .ok (.iload_n 1, 1) := by decide +kernel
theorem d_T_append_5 : decode prog_5_method_4_code 5 = .ok (.bipush 60, 2) := by decide +kernel
theorem d_T_append_7 : decode prog_5_method_4_code 7 = .ok (.imul, 1) := by decide +kernel
theorem d_T_append_8 : decode prog_5_method_4_code 8 = .ok (.aload_n 0, 1) := by decide +kernel
theorem d_T_append_9 : decode prog_5_method_4_code 9 = .ok (.getfield 15, 3) := by decide +kernel
theorem d_T_append_12 : decode prog_5_method_4_code 12 = .ok (.iload_n 1, 1) := by decide +kernel
theorem d_T_append_13 : decode prog_5_method_4_code 13 = .ok (.iaload, 1) := by decide +kernel
theorem d_T_append_14 : decode prog_5_method_4_code 14 = .ok (.iadd, 1) := by decide +kernel
theorem d_T_append_15 : decode prog_5_method_4_code 15 = .ok (.iload_n 2, 1) := by decide +kernel
theorem d_T_append_16 : decode prog_5_method_4_code 16 = .ok (.iastore, 1) := by decide +kernel
theorem d_T_append_17 : decode prog_5_method_4_code 17 = .ok (.aload_n 0, 1) := by decide +kernel
theorem d_T_append_18 : decode prog_5_method_4_code 18 = .ok (.getfield 15, 3) := by decide +kernel
theorem d_T_append_21 : decode prog_5_method_4_code 21 = .ok (.iload_n 1, 1) := by decide +kernel
theorem d_T_append_22 : decode prog_5_method_4_code 22 = .ok (.dup2, 1) := by decide +kernel
theorem d_T_append_23 : decode prog_5_method_4_code 23 = .ok (.iaload, 1) := by decide +kernel
theorem d_T_append_24 : decode prog_5_method_4_code 24 = .ok (.iconst 1, 1) := by decide +kernel
theorem d_T_append_25 : decode prog_5_method_4_code 25 = .ok (.iadd, 1) := by decide +kernel
theorem d_T_append_26 : decode prog_5_method_4_code 26 = .ok (.iastore, 1) := by decide +kernel
theorem d_T_append_27 : decode prog_5_method_4_code 27 = .ok (.aload_n 0, 1) := by decide +kernel
theorem d_T_append_28 : decode prog_5_method_4_code 28 = .ok (.getfield 15, 3) := by decide +kernel
theorem d_T_append_31 : decode prog_5_method_4_code 31 = .ok (.iload_n 1, 1) := by decide +kernel
theorem d_T_append_32 : decode prog_5_method_4_code 32 = .ok (.iaload, 1) := by decide +kernel
theorem d_T_append_33 : decode prog_5_method_4_code 33 = .ok (.ireturn, 1) := by decide +kernel
theorem d_X_unit_0 : decode prog_1_method_2_code 0 = .ok (.iload_n 1, 1) := by decide +kernel
theorem d_X_unit_1 : decode prog_1_method_2_code 1 = .ok (.iconst 1, 1) := by decide +kernel
theorem d_X_unit_2 : decode prog_1_method_2_code 2 = .ok (.bipush 127, 2) := by decide +kernel
theorem d_X_unit_4 : decode prog_1_method_2_code 4 = .ok (.invokestatic 37, 3) := by decide +kernel
theorem d_X_unit_7 : decode prog_1_method_2_code 7 = .ok (.ifCond .ne 13, 3) := by decide +kernel
theorem d_X_unit_10 : decode prog_1_method_2_code 10 = .ok (.new 41, 3) := by decide +kernel
theorem d_X_unit_13 : decode prog_1_method_2_code 13 = .ok (.dup, 1) := by decide +kernel
theorem d_X_unit_14 : decode prog_1_method_2_code 14 = .ok (.ldc 43, 2) := by decide +kernel
theorem d_X_unit_16 : decode prog_1_method_2_code 16 = .ok (.invokespecial 45, 3) := by decide +kernel
theorem d_X_unit_19 : decode prog_1_method_2_code 19 = .ok (.athrow, 1) := by decide +kernel
theorem d_X_unit_20 : decode prog_1_method_2_code 20 = .ok (.aload_n 0, 1) := by decide +kernel
theorem d_X_unit_21 : decode prog_1_method_2_code 21 = .ok (.getfield 12, 3) := by decide +kernel
theorem d_X_unit_24 : decode prog_1_method_2_code 24 = .ok (.bipush 28, 2) := by decide +kernel
theorem d_X_unit_26 : decode prog_1_method_2_code 26 = .ok (.invokevirtual 48, 3) := by decide +kernel
theorem d_X_unit_29 : decode prog_1_method_2_code 29 = .ok (.bipush 60, 2) := by decide +kernel
theorem d_X_unit_31 : decode prog_1_method_2_code 31 = .ok (.if_icmp .lt 13, 3) := by decide +kernel
theorem d_X_unit_34 : decode prog_1_method_2_code 34 = .ok (.new 52, 3) := by decide +kernel
theorem d_X_unit_37 : decode prog_1_method_2_code 37 = .ok (.dup, 1) := by decide +kernel
theorem d_X_unit_38 : decode prog_1_method_2_code 38 = .ok (.ldc 54, 2) := by decide +kernel
theorem d_X_unit_40 : decode prog_1_method_2_code 40 = .ok (.invokespecial 56, 3) := by decide +kernel
theorem d_X_unit_43 : decode prog_1_method_2_code 43 = .ok (.athrow, 1) := by decide +kernel
theorem d_X_unit_44 : decode prog_1_method_2_code 44 = .ok (.aload_n 0, 1) := by decide +kernel
theorem d_X_unit_45 : decode prog_1_method_2_code 45 = .ok (.getfield 12, 3) := by decide +kernel
theorem d_X_unit_48 : decode prog_1_method_2_code 48 = .ok (.bipush 28, 2) := by decide +kernel
theorem d_X_unit_50 : decode prog_1_method_2_code 50 = .ok (.iload_n 1, 1) := by decide +kernel
theorem d_X_unit_51 : decode prog_1_method_2_code 51 = .ok (.invokevirtual 57, 3) := by decide +kernel
theorem d_X_unit_54 : decode prog_1_method_2_code 54 = .ok (.ireturn, 1) := by decide +kernel
theorem d_T_makeEmpty_0 : decode prog_5_method_5_code 0 = .ok (.aload_n 0, 1) := by decide +kernel
theorem d_T_makeEmpty_1 : decode prog_5_method_5_code 1 = .ok (.getfield 15, 3) := by decide +kernel
theorem d_T_makeEmpty_4 : decode prog_5_method_5_code 4 = .ok (.iload_n 1, 1) := by decide +kernel
theorem d_T_makeEmpty_5 : decode prog_5_method_5_code 5 = .ok (.iaload, 1) := by decide +kernel
theorem d_T_makeEmpty_6 : decode prog_5_method_5_code 6 = .ok (.istore_n 2, 1) := by decide +kernel
theorem d_T_makeEmpty_7 : decode prog_5_method_5_code 7 = .ok (.aload_n 0, 1) := by decide +kernel
theorem d_T_makeEmpty_8 : decode prog_5_method_5_code 8 = .ok (.getfield 15, 3) := by decide +kernel
theorem d_T_makeEmpty_11 : decode prog_5_method_5_code 11 = .ok (.iload_n 1, 1) := by decide +kernel
theorem d_T_makeEmpty_12 : decode prog_5_method_5_code 12 = .ok (.iconst 0, 1) := by decide +kernel
theorem d_T_makeEmpty_13 : decode prog_5_method_5_code 13 = .ok (.iastore, 1) := by decide +kernel
theorem d_T_makeEmpty_14 : decode prog_5_method_5_code 14 = .ok (.iload_n 2, 1) := by decide +kernel
theorem d_T_makeEmpty_15 : decode prog_5_method_5_code 15 = .ok (.ireturn, 1) := by decide +kernel
theorem d_X_clear_0 : decode prog_1_method_3_code 0 = .ok (.aload_n 0, 1) := by decide +kernel
theorem d_X_clear_1 : decode prog_1_method_3_code 1 = .ok (.getfield 12, 3) := by decide +kernel
theorem d_X_clear_4 : decode prog_1_method_3_code 4 = .ok (.bipush 28, 2) := by decide +kernel
theorem d_X_clear_6 : decode prog_1_method_3_code 6 = .ok (.invokevirtual 61, 3) := by decide +kernel
theorem d_X_clear_9 : decode prog_1_method_3_code 9 = .ok (.ireturn, 1) := by decide +kernel
theorem d_X_requireDay_0 : decode prog_1_method_26_code 0 = .ok (.iload_n 0, 1) := by decide +kernel
theorem d_X_requireDay_1 : decode prog_1_method_26_code 1 = .ok (.iconst 0, 1) := by decide +kernel
theorem d_X_requireDay_2 : decode prog_1_method_26_code 2 = .ok (.ldc 199, 2) := by decide +kernel
theorem d_X_requireDay_4 : decode prog_1_method_26_code 4 = .ok (.invokestatic 37, 3) := by decide +kernel
theorem d_X_requireDay_7 : decode prog_1_method_26_code 7 = .ok (.ifCond .ne 13, 3) := by decide +kernel
theorem d_X_requireDay_10 : decode prog_1_method_26_code 10 = .ok (.new 41, 3) := by decide +kernel
theorem d_X_requireDay_13 : decode prog_1_method_26_code 13 = .ok (.dup, 1) := by decide +kernel
theorem d_X_requireDay_14 : decode prog_1_method_26_code 14 = .ok (.ldc 200, 2) := by decide +kernel
theorem d_X_requireDay_16 : decode prog_1_method_26_code 16 = .ok (.invokespecial 45, 3) := by decide +kernel
theorem d_X_requireDay_19 : decode prog_1_method_26_code 19 = .ok (.athrow, 1) := by decide +kernel
theorem d_X_requireDay_20 : decode prog_1_method_26_code 20 = .ok (.return_, 1) := by decide +kernel
theorem d_S_made_0 : decode prog_4_method_2_code 0 = .ok (.aload_n 0, 1) := by decide +kernel
theorem d_S_made_1 : decode prog_4_method_2_code 1 = .ok (.getfield 21, 3) := by decide +kernel
theorem d_S_made_4 : decode prog_4_method_2_code 4 = .ok (.ireturn, 1) := by decide +kernel
theorem d_S_add_0 : decode prog_4_method_3_code 0 = .ok (.aload_n 0, 1) := by decide +kernel
theorem d_S_add_1 : decode prog_4_method_3_code 1 = .ok (.getfield 21, 3) := by decide +kernel
theorem d_S_add_4 : decode prog_4_method_3_code 4 = .ok (.istore_n 3, 1) := by decide +kernel
theorem d_S_add_5 : decode prog_4_method_3_code 5 = .ok (.aload_n 0, 1) := by decide +kernel
theorem d_S_add_6 : decode prog_4_method_3_code 6 = .ok (.getfield 9, 3) := by decide +kernel
theorem d_S_add_9 : decode prog_4_method_3_code 9 = .ok (.iload_n 3, 1) := by decide +kernel
theorem d_S_add_10 : decode prog_4_method_3_code 10 = .ok (.iload_n 1, 1) := by decide +kernel
theorem d_S_add_11 : decode prog_4_method_3_code 11 = .ok (.iastore, 1) := by decide +kernel
theorem d_S_add_12 : decode prog_4_method_3_code 12 = .ok (.aload_n 0, 1) := by decide +kernel
theorem d_S_add_13 : decode prog_4_method_3_code 13 = .ok (.getfield 15, 3) := by decide +kernel
theorem d_S_add_16 : decode prog_4_method_3_code 16 = .ok (.iload_n 3, 1) := by decide +kernel
theorem d_S_add_17 : decode prog_4_method_3_code 17 = .ok (.iload_n 2, 1) := by decide +kernel
theorem d_S_add_18 : decode prog_4_method_3_code 18 = .ok (.iastore, 1) := by decide +kernel
theorem d_S_add_19 : decode prog_4_method_3_code 19 = .ok (.aload_n 0, 1) := by decide +kernel
theorem d_S_add_20 : decode prog_4_method_3_code 20 = .ok (.getfield 18, 3) := by decide +kernel
theorem d_S_add_23 : decode prog_4_method_3_code 23 = .ok (.iload_n 3, 1) := by decide +kernel
theorem d_S_add_24 : decode prog_4_method_3_code 24 = .ok (.iconst (-1), 1) := by decide +kernel
theorem d_S_add_25 : decode prog_4_method_3_code 25 = .ok (.iastore, 1) := by decide +kernel
theorem d_S_add_26 : decode prog_4_method_3_code 26 = .ok (.aload_n 0, 1) := by decide +kernel
theorem d_S_add_27 : decode prog_4_method_3_code 27 = .ok (.dup, 1) := by decide +kernel
theorem d_S_add_28 : decode prog_4_method_3_code 28 = .ok (.getfield 21, 3) := by decide +kernel
theorem d_S_add_31 : decode prog_4_method_3_code 31 = .ok (.iconst 1, 1) := by decide +kernel
theorem d_S_add_32 : decode prog_4_method_3_code 32 = .ok (.iadd, 1) := by decide +kernel
theorem d_S_add_33 : decode prog_4_method_3_code 33 = .ok (.putfield 21, 3) := by decide +kernel
theorem d_S_add_36 : decode prog_4_method_3_code 36 = .ok (.iload_n 3, 1) := by decide +kernel
theorem d_S_add_37 : decode prog_4_method_3_code 37 = .ok (.ireturn, 1) := by decide +kernel
theorem d_T_move_0 : decode prog_5_method_6_code 0 = .ok (.aload_n 0, 1) := by decide +kernel
theorem d_T_move_1 : decode prog_5_method_6_code 1 = .ok (.getfield 15, 3) := by decide +kernel
theorem d_T_move_4 : decode prog_5_method_6_code 4 = .ok (.iload_n 1, 1) := by decide +kernel
theorem d_T_move_5 : decode prog_5_method_6_code 5 = .ok (.iaload, 1) := by decide +kernel
theorem d_T_move_6 : decode prog_5_method_6_code 6 = .ok (.istore_n 3, 1) := by decide +kernel
theorem d_T_move_7 : decode prog_5_method_6_code 7 = .ok (.aload_n 0, 1) := by decide +kernel
theorem d_T_move_8 : decode prog_5_method_6_code 8 = .ok (.getfield 9, 3) := by decide +kernel
theorem d_T_move_11 : decode prog_5_method_6_code 11 = .ok (.iload_n 1, 1) := by decide +kernel
theorem d_T_move_12 : decode prog_5_method_6_code 12 = .ok (.bipush 60, 2) := by decide +kernel
theorem d_T_move_14 : decode prog_5_method_6_code 14 = .ok (.imul, 1) := by decide +kernel
theorem d_T_move_15 : decode prog_5_method_6_code 15 = .ok (.aload_n 0, 1) := by decide +kernel
theorem d_T_move_16 : decode prog_5_method_6_code 16 = .ok (.getfield 9, 3) := by decide +kernel
theorem d_T_move_19 : decode prog_5_method_6_code 19 = .ok (.iload_n 2, 1) := by decide +kernel
theorem d_T_move_20 : decode prog_5_method_6_code 20 = .ok (.bipush 60, 2) := by decide +kernel
theorem d_T_move_22 : decode prog_5_method_6_code 22 = .ok (.imul, 1) := by decide +kernel
theorem d_T_move_23 : decode prog_5_method_6_code 23 = .ok (.iload_n 3, 1) := by decide +kernel
theorem d_T_move_24 : decode prog_5_method_6_code 24 = .ok (.invokestatic 18, 3) := by decide +kernel
theorem d_T_move_27 : decode prog_5_method_6_code 27 = .ok (.aload_n 0, 1) := by decide +kernel
theorem d_T_move_28 : decode prog_5_method_6_code 28 = .ok (.getfield 15, 3) := by decide +kernel
theorem d_T_move_31 : decode prog_5_method_6_code 31 = .ok (.iload_n 2, 1) := by decide +kernel
theorem d_T_move_32 : decode prog_5_method_6_code 32 = .ok (.iload_n 3, 1) := by decide +kernel
theorem d_T_move_33 : decode prog_5_method_6_code 33 = .ok (.iastore, 1) := by decide +kernel
theorem d_T_move_34 : decode prog_5_method_6_code 34 = .ok (.aload_n 0, 1) := by decide +kernel
theorem d_T_move_35 : decode prog_5_method_6_code 35 = .ok (.getfield 15, 3) := by decide +kernel
theorem d_T_move_38 : decode prog_5_method_6_code 38 = .ok (.iload_n 1, 1) := by decide +kernel
theorem d_T_move_39 : decode prog_5_method_6_code 39 = .ok (.iconst 0, 1) := by decide +kernel
theorem d_T_move_40 : decode prog_5_method_6_code 40 = .ok (.iastore, 1) := by decide +kernel
theorem d_T_move_41 : decode prog_5_method_6_code 41 = .ok (.iload_n 3, 1) := by decide +kernel
theorem d_T_move_42 : decode prog_5_method_6_code 42 = .ok (.ireturn, 1) := by decide +kernel
theorem d_X_source_0 : decode prog_1_method_4_code 0 = .ok (.iload_n 1, 1) := by decide +kernel
theorem d_X_source_1 : decode prog_1_method_4_code 1 = .ok (.iconst 0, 1) := by decide +kernel
theorem d_X_source_2 : decode prog_1_method_4_code 2 = .ok (.bipush 25, 2) := by decide +kernel
theorem d_X_source_4 : decode prog_1_method_4_code 4 = .ok (.invokestatic 37, 3) := by decide +kernel
theorem d_X_source_7 : decode prog_1_method_4_code 7 = .ok (.ifCond .ne 13, 3) := by decide +kernel
theorem d_X_source_10 : decode prog_1_method_4_code 10 = .ok (.new 41, 3) := by decide +kernel
theorem d_X_source_13 : decode prog_1_method_4_code 13 = .ok (.dup, 1) := by decide +kernel
theorem d_X_source_14 : decode prog_1_method_4_code 14 = .ok (.ldc 64, 2) := by decide +kernel
theorem d_X_source_16 : decode prog_1_method_4_code 16 = .ok (.invokespecial 45, 3) := by decide +kernel
theorem d_X_source_19 : decode prog_1_method_4_code 19 = .ok (.athrow, 1) := by decide +kernel
theorem d_X_source_20 : decode prog_1_method_4_code 20 = .ok (.iload_n 2, 1) := by decide +kernel
theorem d_X_source_21 : decode prog_1_method_4_code 21 = .ok (.invokestatic 66, 3) := by decide +kernel
theorem d_X_source_24 : decode prog_1_method_4_code 24 = .ok (.aload_n 0, 1) := by decide +kernel
theorem d_X_source_25 : decode prog_1_method_4_code 25 = .ok (.getfield 19, 3) := by decide +kernel
theorem d_X_source_28 : decode prog_1_method_4_code 28 = .ok (.invokevirtual 70, 3) := by decide +kernel
theorem d_X_source_31 : decode prog_1_method_4_code 31 = .ok (.bipush 24, 2) := by decide +kernel
theorem d_X_source_33 : decode prog_1_method_4_code 33 = .ok (.if_icmp .lt 13, 3) := by decide +kernel
theorem d_X_source_36 : decode prog_1_method_4_code 36 = .ok (.new 52, 3) := by decide +kernel
theorem d_X_source_39 : decode prog_1_method_4_code 39 = .ok (.dup, 1) := by decide +kernel
theorem d_X_source_40 : decode prog_1_method_4_code 40 = .ok (.ldc 74, 2) := by decide +kernel
theorem d_X_source_42 : decode prog_1_method_4_code 42 = .ok (.invokespecial 56, 3) := by decide +kernel
theorem d_X_source_45 : decode prog_1_method_4_code 45 = .ok (.athrow, 1) := by decide +kernel
theorem d_X_source_46 : decode prog_1_method_4_code 46 = .ok (.aload_n 0, 1) := by decide +kernel
theorem d_X_source_47 : decode prog_1_method_4_code 47 = .ok (.getfield 19, 3) := by decide +kernel
theorem d_X_source_50 : decode prog_1_method_4_code 50 = .ok (.iload_n 1, 1) := by decide +kernel
theorem d_X_source_51 : decode prog_1_method_4_code 51 = .ok (.iload_n 2, 1) := by decide +kernel
theorem d_X_source_52 : decode prog_1_method_4_code 52 = .ok (.invokevirtual 76, 3) := by decide +kernel
theorem d_X_source_55 : decode prog_1_method_4_code 55 = .ok (.istore_n 3, 1) := by decide +kernel
theorem d_X_source_56 : decode prog_1_method_4_code 56 = .ok (.aload_n 0, 1) := by decide +kernel
theorem d_X_source_57 : decode prog_1_method_4_code 57 = .ok (.getfield 12, 3) := by decide +kernel
theorem d_X_source_60 : decode prog_1_method_4_code 60 = .ok (.bipush 28, 2) := by decide +kernel
theorem d_X_source_62 : decode prog_1_method_4_code 62 = .ok (.iload_n 3, 1) := by decide +kernel
theorem d_X_source_63 : decode prog_1_method_4_code 63 = .ok (.invokevirtual 79, 3) := by decide +kernel
theorem d_X_source_66 : decode prog_1_method_4_code 66 = .ok (.pop, 1) := by decide +kernel
theorem d_X_source_67 : decode prog_1_method_4_code 67 = .ok (.iload_n 3, 1) := by decide +kernel
theorem d_X_source_68 : decode prog_1_method_4_code 68 = .ok (.ireturn, 1) := by decide +kernel
theorem d_C_made_0 : decode prog_2_method_2_code 0 = .ok (.aload_n 0, 1) := by decide +kernel
theorem d_C_made_1 : decode prog_2_method_2_code 1 = .ok (.getfield 27, 3) := by decide +kernel
theorem d_C_made_4 : decode prog_2_method_2_code 4 = .ok (.ireturn, 1) := by decide +kernel
theorem d_C_add_0 : decode prog_2_method_3_code 0 = .ok (.aload_n 0, 1) := by decide +kernel
theorem d_C_add_1 : decode prog_2_method_3_code 1 = .ok (.getfield 27, 3) := by decide +kernel
theorem d_C_add_4 : decode prog_2_method_3_code 4 = .ok (.istore_n 1, 1) := by decide +kernel
theorem d_C_add_5 : decode prog_2_method_3_code 5 = .ok (.aload_n 0, 1) := by decide +kernel
theorem d_C_add_6 : decode prog_2_method_3_code 6 = .ok (.dup, 1) := by decide +kernel
theorem d_C_add_7 : decode prog_2_method_3_code 7 = .ok (.getfield 27, 3) := by decide +kernel
theorem d_C_add_10 : decode prog_2_method_3_code 10 = .ok (.iconst 1, 1) := by decide +kernel
theorem d_C_add_11 : decode prog_2_method_3_code 11 = .ok (.iadd, 1) := by decide +kernel
theorem d_C_add_12 : decode prog_2_method_3_code 12 = .ok (.putfield 27, 3) := by decide +kernel
theorem d_C_add_15 : decode prog_2_method_3_code 15 = .ok (.iload_n 1, 1) := by decide +kernel
theorem d_C_add_16 : decode prog_2_method_3_code 16 = .ok (.ireturn, 1) := by decide +kernel
theorem d_X_claim_0 : decode prog_1_method_5_code 0 = .ok (.aload_n 0, 1) := by decide +kernel
theorem d_X_claim_1 : decode prog_1_method_5_code 1 = .ok (.getfield 26, 3) := by decide +kernel
theorem d_X_claim_4 : decode prog_1_method_5_code 4 = .ok (.invokevirtual 82, 3) := by decide +kernel
theorem d_X_claim_7 : decode prog_1_method_5_code 7 = .ok (.bipush 24, 2) := by decide +kernel
theorem d_X_claim_9 : decode prog_1_method_5_code 9 = .ok (.if_icmp .lt 13, 3) := by decide +kernel
theorem d_X_claim_12 : decode prog_1_method_5_code 12 = .ok (.new 52, 3) := by decide +kernel
theorem d_X_claim_15 : decode prog_1_method_5_code 15 = .ok (.dup, 1) := by decide +kernel
theorem d_X_claim_16 : decode prog_1_method_5_code 16 = .ok (.ldc 83, 2) := by decide +kernel
theorem d_X_claim_18 : decode prog_1_method_5_code 18 = .ok (.invokespecial 56, 3) := by decide +kernel
theorem d_X_claim_21 : decode prog_1_method_5_code 21 = .ok (.athrow, 1) := by decide +kernel
theorem d_X_claim_22 : decode prog_1_method_5_code 22 = .ok (.aload_n 0, 1) := by decide +kernel
theorem d_X_claim_23 : decode prog_1_method_5_code 23 = .ok (.getfield 26, 3) := by decide +kernel
theorem d_X_claim_26 : decode prog_1_method_5_code 26 = .ok (.invokevirtual 85, 3) := by decide +kernel
theorem d_X_claim_29 : decode prog_1_method_5_code 29 = .ok (.ireturn, 1) := by decide +kernel
theorem d_X_requireClaim_0 : decode prog_1_method_22_code 0 = .ok (.iload_n 1, 1) := by decide +kernel
theorem d_X_requireClaim_1 : decode prog_1_method_22_code 1 = .ok (.iconst 0, 1) := by decide +kernel
theorem d_X_requireClaim_2 : decode prog_1_method_22_code 2 = .ok (.aload_n 0, 1) := by decide +kernel
theorem d_X_requireClaim_3 : decode prog_1_method_22_code 3 = .ok (.getfield 26, 3) := by decide +kernel
theorem d_X_requireClaim_6 : decode prog_1_method_22_code 6 = .ok (.invokevirtual 82, 3) := by decide +kernel
theorem d_X_requireClaim_9 : decode prog_1_method_22_code 9 = .ok (.iconst 1, 1) := by decide +kernel
theorem d_X_requireClaim_10 : decode prog_1_method_22_code 10 = .ok (.isub, 1) := by decide +kernel
theorem d_X_requireClaim_11 : decode prog_1_method_22_code 11 = .ok (.invokestatic 37, 3) := by decide +kernel
theorem d_X_requireClaim_14 : decode prog_1_method_22_code 14 = .ok (.ifCond .ne 13, 3) := by decide +kernel
theorem d_X_requireClaim_17 : decode prog_1_method_22_code 17 = .ok (.new 165, 3) := by decide +kernel
theorem d_X_requireClaim_20 : decode prog_1_method_22_code 20 = .ok (.dup, 1) := by decide +kernel
theorem d_X_requireClaim_21 : decode prog_1_method_22_code 21 = .ok (.ldc 191, 2) := by decide +kernel
theorem d_X_requireClaim_23 : decode prog_1_method_22_code 23 = .ok (.invokespecial 169, 3) := by decide +kernel
theorem d_X_requireClaim_26 : decode prog_1_method_22_code 26 = .ok (.athrow, 1) := by decide +kernel
theorem d_X_requireClaim_27 : decode prog_1_method_22_code 27 = .ok (.return_, 1) := by decide +kernel
theorem d_X_requireSource_0 : decode prog_1_method_21_code 0 = .ok (.iload_n 1, 1) := by decide +kernel
theorem d_X_requireSource_1 : decode prog_1_method_21_code 1 = .ok (.iconst 0, 1) := by decide +kernel
theorem d_X_requireSource_2 : decode prog_1_method_21_code 2 = .ok (.aload_n 0, 1) := by decide +kernel
theorem d_X_requireSource_3 : decode prog_1_method_21_code 3 = .ok (.getfield 19, 3) := by decide +kernel
theorem d_X_requireSource_6 : decode prog_1_method_21_code 6 = .ok (.invokevirtual 70, 3) := by decide +kernel
theorem d_X_requireSource_9 : decode prog_1_method_21_code 9 = .ok (.iconst 1, 1) := by decide +kernel
theorem d_X_requireSource_10 : decode prog_1_method_21_code 10 = .ok (.isub, 1) := by decide +kernel
theorem d_X_requireSource_11 : decode prog_1_method_21_code 11 = .ok (.invokestatic 37, 3) := by decide +kernel
theorem d_X_requireSource_14 : decode prog_1_method_21_code 14 = .ok (.ifCond .ne 13, 3) := by decide +kernel
theorem d_X_requireSource_17 : decode prog_1_method_21_code 17 = .ok (.new 165, 3) := by decide +kernel
theorem d_X_requireSource_20 : decode prog_1_method_21_code 20 = .ok (.dup, 1) := by decide +kernel
theorem d_X_requireSource_21 : decode prog_1_method_21_code 21 = .ok (.ldc 189, 2) := by decide +kernel
theorem d_X_requireSource_23 : decode prog_1_method_21_code 23 = .ok (.invokespecial 169, 3) := by decide +kernel
theorem d_X_requireSource_26 : decode prog_1_method_21_code 26 = .ok (.athrow, 1) := by decide +kernel
theorem d_X_requireSource_27 : decode prog_1_method_21_code 27 = .ok (.return_, 1) := by decide +kernel
theorem d_X_with_0 : decode prog_1_method_37_code 0 = .ok (.iload_n 0, 1) := by decide +kernel
theorem d_X_with_1 : decode prog_1_method_37_code 1 = .ok (.iconst 1, 1) := by decide +kernel
theorem d_X_with_2 : decode prog_1_method_37_code 2 = .ok (.iload_n 1, 1) := by decide +kernel
theorem d_X_with_3 : decode prog_1_method_37_code 3 = .ok (.ishl, 1) := by decide +kernel
theorem d_X_with_4 : decode prog_1_method_37_code 4 = .ok (.ior, 1) := by decide +kernel
theorem d_X_with_5 : decode prog_1_method_37_code 5 = .ok (.ireturn, 1) := by decide +kernel
theorem d_X_without_0 : decode prog_1_method_38_code 0 = .ok (.iload_n 0, 1) := by decide +kernel
theorem d_X_without_1 : decode prog_1_method_38_code 1 = .ok (.iconst 1, 1) := by decide +kernel
theorem d_X_without_2 : decode prog_1_method_38_code 2 = .ok (.iload_n 1, 1) := by decide +kernel
theorem d_X_without_3 : decode prog_1_method_38_code 3 = .ok (.ishl, 1) := by decide +kernel
theorem d_X_without_4 : decode prog_1_method_38_code 4 = .ok (.iconst (-1), 1) := by decide +kernel
theorem d_X_without_5 : decode prog_1_method_38_code 5 = .ok (.ixor, 1) := by decide +kernel
theorem d_X_without_6 : decode prog_1_method_38_code 6 = .ok (.iand, 1) := by decide +kernel
theorem d_X_without_7 : decode prog_1_method_38_code 7 = .ok (.ireturn, 1) := by decide +kernel
theorem d_C_setSource_0 : decode prog_2_method_6_code 0 = .ok (.aload_n 0, 1) := by decide +kernel
theorem d_C_setSource_1 : decode prog_2_method_6_code 1 = .ok (.getfield 9, 3) := by decide +kernel
theorem d_C_setSource_4 : decode prog_2_method_6_code 4 = .ok (.iload_n 1, 1) := by decide +kernel
theorem d_C_setSource_5 : decode prog_2_method_6_code 5 = .ok (.iaload, 1) := by decide +kernel
theorem d_C_setSource_6 : decode prog_2_method_6_code 6 = .ok (.istore 4, 2) := by decide +kernel
theorem d_C_setSource_8 : decode prog_2_method_6_code 8 = .ok (.aload_n 0, 1) := by decide +kernel
theorem d_C_setSource_9 : decode prog_2_method_6_code 9 = .ok (.getfield 9, 3) := by decide +kernel
theorem d_C_setSource_12 : decode prog_2_method_6_code 12 = .ok (.iload_n 1, 1) := by decide +kernel
theorem d_C_setSource_13 : decode prog_2_method_6_code 13 = .ok (.iload_n 3, 1) := by decide +kernel
theorem d_C_setSource_14 : decode prog_2_method_6_code 14 = .ok (.ifCond .eq 12, 3) := by decide +kernel
theorem d_C_setSource_17 : decode prog_2_method_6_code 17 = .ok (.iload 4, 2) := by decide +kernel
theorem d_C_setSource_19 : decode prog_2_method_6_code 19 = .ok (.iload_n 2, 1) := by decide +kernel
theorem d_C_setSource_20 : decode prog_2_method_6_code 20 = .ok (.invokestatic 31, 3) := by decide +kernel
theorem d_C_setSource_23 : decode prog_2_method_6_code 23 = .ok (.goto 9, 3) := by decide +kernel
theorem d_C_setSource_26 : decode prog_2_method_6_code 26 = .ok (.iload 4, 2) := by decide +kernel
theorem d_C_setSource_28 : decode prog_2_method_6_code 28 = .ok (.iload_n 2, 1) := by decide +kernel
theorem d_C_setSource_29 : decode prog_2_method_6_code 29 = .ok (.invokestatic 35, 3) := by decide +kernel
theorem d_C_setSource_32 : decode prog_2_method_6_code 32 = .ok (.iastore, 1) := by decide +kernel
theorem d_C_setSource_33 : decode prog_2_method_6_code 33 = .ok (.aload_n 0, 1) := by decide +kernel
theorem d_C_setSource_34 : decode prog_2_method_6_code 34 = .ok (.getfield 9, 3) := by decide +kernel
theorem d_C_setSource_37 : decode prog_2_method_6_code 37 = .ok (.iload_n 1, 1) := by decide +kernel
theorem d_C_setSource_38 : decode prog_2_method_6_code 38 = .ok (.iaload, 1) := by decide +kernel
theorem d_C_setSource_39 : decode prog_2_method_6_code 39 = .ok (.iload 4, 2) := by decide +kernel
theorem d_C_setSource_41 : decode prog_2_method_6_code 41 = .ok (.if_icmp .eq 7, 3) := by decide +kernel
theorem d_C_setSource_44 : decode prog_2_method_6_code 44 = .ok (.iconst 1, 1) := by decide +kernel
theorem d_C_setSource_45 : decode prog_2_method_6_code 45 = .ok (.goto 4, 3) := by decide +kernel
theorem d_C_setSource_48 : decode prog_2_method_6_code 48 = .ok (.iconst 0, 1) := by decide +kernel
theorem d_C_setSource_49 : decode prog_2_method_6_code 49 = .ok (.ireturn, 1) := by decide +kernel
theorem d_X_rests_0 : decode prog_1_method_6_code 0 = .ok (.aload_n 0, 1) := by decide +kernel
theorem d_X_rests_1 : decode prog_1_method_6_code 1 = .ok (.iload_n 1, 1) := by decide +kernel
theorem d_X_rests_2 : decode prog_1_method_6_code 2 = .ok (.invokevirtual 87, 3) := by decide +kernel
theorem d_X_rests_5 : decode prog_1_method_6_code 5 = .ok (.aload_n 0, 1) := by decide +kernel
theorem d_X_rests_6 : decode prog_1_method_6_code 6 = .ok (.iload_n 2, 1) := by decide +kernel
theorem d_X_rests_7 : decode prog_1_method_6_code 7 = .ok (.invokevirtual 90, 3) := by decide +kernel
theorem d_X_rests_10 : decode prog_1_method_6_code 10 = .ok (.aload_n 0, 1) := by decide +kernel
theorem d_X_rests_11 : decode prog_1_method_6_code 11 = .ok (.getfield 26, 3) := by decide +kernel
theorem d_X_rests_14 : decode prog_1_method_6_code 14 = .ok (.iload_n 1, 1) := by decide +kernel
theorem d_X_rests_15 : decode prog_1_method_6_code 15 = .ok (.iload_n 2, 1) := by decide +kernel
theorem d_X_rests_16 : decode prog_1_method_6_code 16 = .ok (.iload_n 3, 1) := by decide +kernel
theorem d_X_rests_17 : decode prog_1_method_6_code 17 = .ok (.invokevirtual 93, 3) := by decide +kernel
theorem d_X_rests_20 : decode prog_1_method_6_code 20 = .ok (.ireturn, 1) := by decide +kernel
theorem d_X_contains_0 : decode prog_1_method_36_code 0 = .ok (.iload_n 0, 1) := by decide +kernel
theorem d_X_contains_1 : decode prog_1_method_36_code 1 = .ok (.iconst 1, 1) := by decide +kernel
theorem d_X_contains_2 : decode prog_1_method_36_code 2 = .ok (.iload_n 1, 1) := by decide +kernel
theorem d_X_contains_3 : decode prog_1_method_36_code 3 = .ok (.ishl, 1) := by decide +kernel
theorem d_X_contains_4 : decode prog_1_method_36_code 4 = .ok (.iand, 1) := by decide +kernel
theorem d_X_contains_5 : decode prog_1_method_36_code 5 = .ok (.ifCond .eq 7, 3) := by decide +kernel
theorem d_X_contains_8 : decode prog_1_method_36_code 8 = .ok (.iconst 1, 1) := by decide +kernel
theorem d_X_contains_9 : decode prog_1_method_36_code 9 = .ok (.goto 4, 3) := by decide +kernel
theorem d_X_contains_12 : decode prog_1_method_36_code 12 = .ok (.iconst 0, 1) := by decide +kernel
theorem d_X_contains_13 : decode prog_1_method_36_code 13 = .ok (.ireturn, 1) := by decide +kernel
theorem d_C_isOn_0 : decode prog_2_method_7_code 0 = .ok (.aload_n 0, 1) := by decide +kernel
theorem d_C_isOn_1 : decode prog_2_method_7_code 1 = .ok (.getfield 15, 3) := by decide +kernel
theorem d_C_isOn_4 : decode prog_2_method_7_code 4 = .ok (.iload_n 1, 1) := by decide +kernel
theorem d_C_isOn_5 : decode prog_2_method_7_code 5 = .ok (.iaload, 1) := by decide +kernel
theorem d_C_isOn_6 : decode prog_2_method_7_code 6 = .ok (.iload_n 2, 1) := by decide +kernel
theorem d_C_isOn_7 : decode prog_2_method_7_code 7 = .ok (.invokestatic 38, 3) := by decide +kernel
theorem d_C_isOn_10 : decode prog_2_method_7_code 10 = .ok (.ireturn, 1) := by decide +kernel
theorem d_C_markThoseAbove_0 : decode prog_2_method_14_code 0 = .ok (.iconst 0, 1) := by decide +kernel
theorem d_C_markThoseAbove_1 : decode prog_2_method_14_code 1 = .ok (.istore_n 3, 1) := by decide +kernel
theorem d_C_markThoseAbove_2 : decode prog_2_method_14_code 2 = .ok (.iconst 0, 1) := by decide +kernel
theorem d_C_markThoseAbove_3 : decode prog_2_method_14_code 3 = .ok (.istore 4, 2) := by decide +kernel
theorem d_C_markThoseAbove_5 : decode prog_2_method_14_code 5 = .ok (.iload 4, 2) := by decide +kernel
theorem d_C_markThoseAbove_7 : decode prog_2_method_14_code 7 = .ok (.aload_n 0, 1) := by decide +kernel
theorem d_C_markThoseAbove_8 : decode prog_2_method_14_code 8 = .ok (.getfield 27, 3) := by decide +kernel
theorem d_C_markThoseAbove_11 : decode prog_2_method_14_code 11 = .ok (.if_icmp .ge 47, 3) := by decide +kernel
theorem d_C_markThoseAbove_14 : decode prog_2_method_14_code 14 = .ok (.aload_n 0, 1) := by decide +kernel
theorem d_C_markThoseAbove_15 : decode prog_2_method_14_code 15 = .ok (.getfield 24, 3) := by decide +kernel
theorem d_C_markThoseAbove_18 : decode prog_2_method_14_code 18 = .ok (.iload 4, 2) := by decide +kernel
theorem d_C_markThoseAbove_20 : decode prog_2_method_14_code 20 = .ok (.iaload, 1) := by decide +kernel
theorem d_C_markThoseAbove_21 : decode prog_2_method_14_code 21 = .ok (.iconst (-1), 1) := by decide +kernel
theorem d_C_markThoseAbove_22 : decode prog_2_method_14_code 22 = .ok (.if_icmp .ne 30, 3) := by decide +kernel
theorem d_C_markThoseAbove_25 : decode prog_2_method_14_code 25 = .ok (.aload_n 0, 1) := by decide +kernel
theorem d_C_markThoseAbove_26 : decode prog_2_method_14_code 26 = .ok (.getfield 15, 3) := by decide +kernel
theorem d_C_markThoseAbove_29 : decode prog_2_method_14_code 29 = .ok (.iload 4, 2) := by decide +kernel
theorem d_C_markThoseAbove_31 : decode prog_2_method_14_code 31 = .ok (.iaload, 1) := by decide +kernel
theorem d_C_markThoseAbove_32 : decode prog_2_method_14_code 32 = .ok (.iload_n 1, 1) := by decide +kernel
theorem d_C_markThoseAbove_33 : decode prog_2_method_14_code 33 = .ok (.iand, 1) := by decide +kernel
theorem d_C_markThoseAbove_34 : decode prog_2_method_14_code 34 = .ok (.ifCond .eq 18, 3) := by decide +kernel
theorem d_C_markThoseAbove_37 : decode prog_2_method_14_code 37 = .ok (.aload_n 0, 1) := by decide +kernel
theorem d_C_markThoseAbove_38 : decode prog_2_method_14_code 38 = .ok (.getfield 24, 3) := by decide +kernel
theorem d_C_markThoseAbove_41 : decode prog_2_method_14_code 41 = .ok (.iload 4, 2) := by decide +kernel
theorem d_C_markThoseAbove_43 : decode prog_2_method_14_code 43 = .ok (.iload_n 2, 1) := by decide +kernel
theorem d_C_markThoseAbove_44 : decode prog_2_method_14_code 44 = .ok (.iastore, 1) := by decide +kernel
theorem d_C_markThoseAbove_45 : decode prog_2_method_14_code 45 = .ok (.iload_n 3, 1) := by decide +kernel
theorem d_C_markThoseAbove_46 : decode prog_2_method_14_code 46 = .ok (.iload 4, 2) := by decide +kernel
theorem d_C_markThoseAbove_48 : decode prog_2_method_14_code 48 = .ok (.invokestatic 31, 3) := by decide +kernel
theorem d_C_markThoseAbove_51 : decode prog_2_method_14_code 51 = .ok (.istore_n 3, 1) := by decide +kernel
theorem d_C_markThoseAbove_52 : decode prog_2_method_14_code 52 = .ok (.iinc 4 1, 3) := by decide +kernel
theorem d_C_markThoseAbove_55 : decode prog_2_method_14_code 55 = .ok (.goto (-50), 3) := by decide +kernel
theorem d_C_markThoseAbove_58 : decode prog_2_method_14_code 58 = .ok (.iload_n 3, 1) := by decide +kernel
theorem d_C_markThoseAbove_59 : decode prog_2_method_14_code 59 = .ok (.ireturn, 1) := by decide +kernel
theorem d_C_measureStepsTo_0 : decode prog_2_method_13_code 0 = .ok (.aload_n 0, 1) := by decide +kernel
theorem d_C_measureStepsTo_1 : decode prog_2_method_13_code 1 = .ok (.getfield 24, 3) := by decide +kernel
theorem d_C_measureStepsTo_4 : decode prog_2_method_13_code 4 = .ok (.iconst (-1), 1) := by decide +kernel
theorem d_C_measureStepsTo_5 : decode prog_2_method_13_code 5 = .ok (.invokestatic 58, 3) := by decide +kernel
theorem d_C_measureStepsTo_8 : decode prog_2_method_13_code 8 = .ok (.aload_n 0, 1) := by decide +kernel
theorem d_C_measureStepsTo_9 : decode prog_2_method_13_code 9 = .ok (.getfield 24, 3) := by decide +kernel
theorem d_C_measureStepsTo_12 : decode prog_2_method_13_code 12 = .ok (.iload_n 1, 1) := by decide +kernel
theorem d_C_measureStepsTo_13 : decode prog_2_method_13_code 13 = .ok (.iconst 0, 1) := by decide +kernel
theorem d_C_measureStepsTo_14 : decode prog_2_method_13_code 14 = .ok (.iastore, 1) := by decide +kernel
theorem d_C_measureStepsTo_15 : decode prog_2_method_13_code 15 = .ok (.iconst 0, 1) := by decide +kernel
theorem d_C_measureStepsTo_16 : decode prog_2_method_13_code 16 = .ok (.iload_n 1, 1) := by decide +kernel
theorem d_C_measureStepsTo_17 : decode prog_2_method_13_code 17 = .ok (.invokestatic 31, 3) := by decide +kernel
theorem d_C_measureStepsTo_20 : decode prog_2_method_13_code 20 = .ok (.istore_n 2, 1) := by decide +kernel
theorem d_C_measureStepsTo_21 : decode prog_2_method_13_code 21 = .ok (.iconst 1, 1) := by decide +kernel
theorem d_C_measureStepsTo_22 : decode prog_2_method_13_code 22 = .ok (.istore_n 3, 1) := by decide +kernel
theorem d_C_measureStepsTo_23 : decode prog_2_method_13_code 23 = .ok (.iload_n 3, 1) := by decide +kernel
theorem d_C_measureStepsTo_24 : decode prog_2_method_13_code 24 = .ok (.bipush 24, 2) := by decide +kernel
theorem d_C_measureStepsTo_26 : decode prog_2_method_13_code 26 = .ok (.if_icmp .ge 20, 3) := by decide +kernel
theorem d_C_measureStepsTo_29 : decode prog_2_method_13_code 29 = .ok (.iload_n 2, 1) := by decide +kernel
theorem d_C_measureStepsTo_30 : decode prog_2_method_13_code 30 = .ok (.ifCond .eq 16, 3) := by decide +kernel
theorem d_C_measureStepsTo_33 : decode prog_2_method_13_code 33 = .ok (.aload_n 0, 1) := by decide +kernel
theorem d_C_measureStepsTo_34 : decode prog_2_method_13_code 34 = .ok (.iload_n 2, 1) := by decide +kernel
theorem d_C_measureStepsTo_35 : decode prog_2_method_13_code 35 = .ok (.iload_n 3, 1) := by decide +kernel
theorem d_C_measureStepsTo_36 : decode prog_2_method_13_code 36 = .ok (.invokevirtual 64, 3) := by decide +kernel
theorem d_C_measureStepsTo_39 : decode prog_2_method_13_code 39 = .ok (.istore_n 2, 1) := by decide +kernel
theorem d_C_measureStepsTo_40 : decode prog_2_method_13_code 40 = .ok (.iinc 3 1, 3) := by decide +kernel
theorem d_C_measureStepsTo_43 : decode prog_2_method_13_code 43 = .ok (.goto (-20), 3) := by decide +kernel
theorem d_C_measureStepsTo_46 : decode prog_2_method_13_code 46 = .ok (.return_, 1) := by decide +kernel
theorem d_C_lowestBelow_0 : decode prog_2_method_15_code 0 = .ok (.iconst 0, 1) := by decide +kernel
theorem d_C_lowestBelow_1 : decode prog_2_method_15_code 1 = .ok (.istore_n 3, 1) := by decide +kernel
theorem d_C_lowestBelow_2 : decode prog_2_method_15_code 2 = .ok (.iload_n 3, 1) := by decide +kernel
theorem d_C_lowestBelow_3 : decode prog_2_method_15_code 3 = .ok (.aload_n 0, 1) := by decide +kernel
theorem d_C_lowestBelow_4 : decode prog_2_method_15_code 4 = .ok (.getfield 27, 3) := by decide +kernel
theorem d_C_lowestBelow_7 : decode prog_2_method_15_code 7 = .ok (.if_icmp .ge 30, 3) := by decide +kernel
theorem d_C_lowestBelow_10 : decode prog_2_method_15_code 10 = .ok (.aload_n 0, 1) := by decide +kernel
theorem d_C_lowestBelow_11 : decode prog_2_method_15_code 11 = .ok (.iload_n 1, 1) := by decide +kernel
theorem d_C_lowestBelow_12 : decode prog_2_method_15_code 12 = .ok (.iload_n 3, 1) := by decide +kernel
theorem d_C_lowestBelow_13 : decode prog_2_method_15_code 13 = .ok (.invokevirtual 67, 3) := by decide +kernel
theorem d_C_lowestBelow_16 : decode prog_2_method_15_code 16 = .ok (.ifCond .eq 15, 3) := by decide +kernel
theorem d_C_lowestBelow_19 : decode prog_2_method_15_code 19 = .ok (.aload_n 0, 1) := by decide +kernel
theorem d_C_lowestBelow_20 : decode prog_2_method_15_code 20 = .ok (.getfield 24, 3) := by decide +kernel
theorem d_C_lowestBelow_23 : decode prog_2_method_15_code 23 = .ok (.iload_n 3, 1) := by decide +kernel
theorem d_C_lowestBelow_24 : decode prog_2_method_15_code 24 = .ok (.iaload, 1) := by decide +kernel
theorem d_C_lowestBelow_25 : decode prog_2_method_15_code 25 = .ok (.iload_n 2, 1) := by decide +kernel
theorem d_C_lowestBelow_26 : decode prog_2_method_15_code 26 = .ok (.if_icmp .ne 5, 3) := by decide +kernel
theorem d_C_lowestBelow_29 : decode prog_2_method_15_code 29 = .ok (.iload_n 3, 1) := by decide +kernel
theorem d_C_lowestBelow_30 : decode prog_2_method_15_code 30 = .ok (.ireturn, 1) := by decide +kernel
theorem d_C_lowestBelow_31 : decode prog_2_method_15_code 31 = .ok (.iinc 3 1, 3) := by decide +kernel
theorem d_C_lowestBelow_34 : decode prog_2_method_15_code 34 = .ok (.goto (-32), 3) := by decide +kernel
theorem d_C_lowestBelow_37 : decode prog_2_method_15_code 37 = .ok (.iconst (-1), 1) := by decide +kernel
theorem d_C_lowestBelow_38 : decode prog_2_method_15_code 38 = .ok (.ireturn, 1) := by decide +kernel
theorem d_C_tellRing_0 : decode prog_2_method_12_code 0 = .ok (.aload_n 0, 1) := by decide +kernel
theorem d_C_tellRing_1 : decode prog_2_method_12_code 1 = .ok (.iload_n 1, 1) := by decide +kernel
theorem d_C_tellRing_2 : decode prog_2_method_12_code 2 = .ok (.invokevirtual 51, 3) := by decide +kernel
theorem d_C_tellRing_5 : decode prog_2_method_12_code 5 = .ok (.aload_n 0, 1) := by decide +kernel
theorem d_C_tellRing_6 : decode prog_2_method_12_code 6 = .ok (.getfield 24, 3) := by decide +kernel
theorem d_C_tellRing_9 : decode prog_2_method_12_code 9 = .ok (.iload_n 2, 1) := by decide +kernel
theorem d_C_tellRing_10 : decode prog_2_method_12_code 10 = .ok (.iaload, 1) := by decide +kernel
theorem d_C_tellRing_11 : decode prog_2_method_12_code 11 = .ok (.iconst (-1), 1) := by decide +kernel
theorem d_C_tellRing_12 : decode prog_2_method_12_code 12 = .ok (.if_icmp .ne 5, 3) := by decide +kernel
theorem d_C_tellRing_15 : decode prog_2_method_12_code 15 = .ok (.iconst 0, 1) := by decide +kernel
theorem d_C_tellRing_16 : decode prog_2_method_12_code 16 = .ok (.ireturn, 1) := by decide +kernel
theorem d_C_tellRing_17 : decode prog_2_method_12_code 17 = .ok (.aload_n 0, 1) := by decide +kernel
theorem d_C_tellRing_18 : decode prog_2_method_12_code 18 = .ok (.getfield 21, 3) := by decide +kernel
theorem d_C_tellRing_21 : decode prog_2_method_12_code 21 = .ok (.iconst 0, 1) := by decide +kernel
theorem d_C_tellRing_22 : decode prog_2_method_12_code 22 = .ok (.iload_n 1, 1) := by decide +kernel
theorem d_C_tellRing_23 : decode prog_2_method_12_code 23 = .ok (.iastore, 1) := by decide +kernel
theorem d_C_tellRing_24 : decode prog_2_method_12_code 24 = .ok (.aload_n 0, 1) := by decide +kernel
theorem d_C_tellRing_25 : decode prog_2_method_12_code 25 = .ok (.iconst 1, 1) := by decide +kernel
theorem d_C_tellRing_26 : decode prog_2_method_12_code 26 = .ok (.putfield 48, 3) := by decide +kernel
theorem d_C_tellRing_29 : decode prog_2_method_12_code 29 = .ok (.iload_n 2, 1) := by decide +kernel
theorem d_C_tellRing_30 : decode prog_2_method_12_code 30 = .ok (.istore_n 3, 1) := by decide +kernel
theorem d_C_tellRing_31 : decode prog_2_method_12_code 31 = .ok (.aload_n 0, 1) := by decide +kernel
theorem d_C_tellRing_32 : decode prog_2_method_12_code 32 = .ok (.getfield 24, 3) := by decide +kernel
theorem d_C_tellRing_35 : decode prog_2_method_12_code 35 = .ok (.iload_n 2, 1) := by decide +kernel
theorem d_C_tellRing_36 : decode prog_2_method_12_code 36 = .ok (.iaload, 1) := by decide +kernel
theorem d_C_tellRing_37 : decode prog_2_method_12_code 37 = .ok (.istore 4, 2) := by decide +kernel
theorem d_C_tellRing_39 : decode prog_2_method_12_code 39 = .ok (.iload 4, 2) := by decide +kernel
theorem d_C_tellRing_41 : decode prog_2_method_12_code 41 = .ok (.ifCond .le 44, 3) := by decide +kernel
theorem d_C_tellRing_44 : decode prog_2_method_12_code 44 = .ok (.iload_n 3, 1) := by decide +kernel
theorem d_C_tellRing_45 : decode prog_2_method_12_code 45 = .ok (.iconst (-1), 1) := by decide +kernel
theorem d_C_tellRing_46 : decode prog_2_method_12_code 46 = .ok (.if_icmp .eq 39, 3) := by decide +kernel
theorem d_C_tellRing_49 : decode prog_2_method_12_code 49 = .ok (.aload_n 0, 1) := by decide +kernel
theorem d_C_tellRing_50 : decode prog_2_method_12_code 50 = .ok (.getfield 21, 3) := by decide +kernel
theorem d_C_tellRing_53 : decode prog_2_method_12_code 53 = .ok (.aload_n 0, 1) := by decide +kernel
theorem d_C_tellRing_54 : decode prog_2_method_12_code 54 = .ok (.getfield 48, 3) := by decide +kernel
theorem d_C_tellRing_57 : decode prog_2_method_12_code 57 = .ok (.iload_n 3, 1) := by decide +kernel
theorem d_C_tellRing_58 : decode prog_2_method_12_code 58 = .ok (.iastore, 1) := by decide +kernel
theorem d_C_tellRing_59 : decode prog_2_method_12_code 59 = .ok (.aload_n 0, 1) := by decide +kernel
theorem d_C_tellRing_60 : decode prog_2_method_12_code 60 = .ok (.dup, 1) := by decide +kernel
theorem d_C_tellRing_61 : decode prog_2_method_12_code 61 = .ok (.getfield 48, 3) := by decide +kernel
theorem d_C_tellRing_64 : decode prog_2_method_12_code 64 = .ok (.iconst 1, 1) := by decide +kernel
theorem d_C_tellRing_65 : decode prog_2_method_12_code 65 = .ok (.iadd, 1) := by decide +kernel
theorem d_C_tellRing_66 : decode prog_2_method_12_code 66 = .ok (.putfield 48, 3) := by decide +kernel
theorem d_C_tellRing_69 : decode prog_2_method_12_code 69 = .ok (.aload_n 0, 1) := by decide +kernel
theorem d_C_tellRing_70 : decode prog_2_method_12_code 70 = .ok (.iload_n 3, 1) := by decide +kernel
theorem d_C_tellRing_71 : decode prog_2_method_12_code 71 = .ok (.iload 4, 2) := by decide +kernel
theorem d_C_tellRing_73 : decode prog_2_method_12_code 73 = .ok (.iconst 1, 1) := by decide +kernel
theorem d_C_tellRing_74 : decode prog_2_method_12_code 74 = .ok (.isub, 1) := by decide +kernel
theorem d_C_tellRing_75 : decode prog_2_method_12_code 75 = .ok (.invokevirtual 55, 3) := by decide +kernel
theorem d_C_tellRing_78 : decode prog_2_method_12_code 78 = .ok (.istore_n 3, 1) := by decide +kernel
theorem d_C_tellRing_79 : decode prog_2_method_12_code 79 = .ok (.iinc 4 (-1), 3) := by decide +kernel
theorem d_C_tellRing_82 : decode prog_2_method_12_code 82 = .ok (.goto (-43), 3) := by decide +kernel
theorem d_C_tellRing_85 : decode prog_2_method_12_code 85 = .ok (.iconst 1, 1) := by decide +kernel
theorem d_C_tellRing_86 : decode prog_2_method_12_code 86 = .ok (.ireturn, 1) := by decide +kernel
theorem d_C_setOther_0 : decode prog_2_method_8_code 0 = .ok (.aload_n 0, 1) := by decide +kernel
theorem d_C_setOther_1 : decode prog_2_method_8_code 1 = .ok (.getfield 15, 3) := by decide +kernel
theorem d_C_setOther_4 : decode prog_2_method_8_code 4 = .ok (.iload_n 1, 1) := by decide +kernel
theorem d_C_setOther_5 : decode prog_2_method_8_code 5 = .ok (.iaload, 1) := by decide +kernel
theorem d_C_setOther_6 : decode prog_2_method_8_code 6 = .ok (.istore 4, 2) := by decide +kernel
theorem d_C_setOther_8 : decode prog_2_method_8_code 8 = .ok (.aload_n 0, 1) := by decide +kernel
theorem d_C_setOther_9 : decode prog_2_method_8_code 9 = .ok (.getfield 15, 3) := by decide +kernel
theorem d_C_setOther_12 : decode prog_2_method_8_code 12 = .ok (.iload_n 1, 1) := by decide +kernel
theorem d_C_setOther_13 : decode prog_2_method_8_code 13 = .ok (.iload_n 3, 1) := by decide +kernel
theorem d_C_setOther_14 : decode prog_2_method_8_code 14 = .ok (.ifCond .eq 12, 3) := by decide +kernel
theorem d_C_setOther_17 : decode prog_2_method_8_code 17 = .ok (.iload 4, 2) := by decide +kernel
theorem d_C_setOther_19 : decode prog_2_method_8_code 19 = .ok (.iload_n 2, 1) := by decide +kernel
theorem d_C_setOther_20 : decode prog_2_method_8_code 20 = .ok (.invokestatic 31, 3) := by decide +kernel
theorem d_C_setOther_23 : decode prog_2_method_8_code 23 = .ok (.goto 9, 3) := by decide +kernel
theorem d_C_setOther_26 : decode prog_2_method_8_code 26 = .ok (.iload 4, 2) := by decide +kernel
theorem d_C_setOther_28 : decode prog_2_method_8_code 28 = .ok (.iload_n 2, 1) := by decide +kernel
theorem d_C_setOther_29 : decode prog_2_method_8_code 29 = .ok (.invokestatic 35, 3) := by decide +kernel
theorem d_C_setOther_32 : decode prog_2_method_8_code 32 = .ok (.iastore, 1) := by decide +kernel
theorem d_C_setOther_33 : decode prog_2_method_8_code 33 = .ok (.aload_n 0, 1) := by decide +kernel
theorem d_C_setOther_34 : decode prog_2_method_8_code 34 = .ok (.getfield 15, 3) := by decide +kernel
theorem d_C_setOther_37 : decode prog_2_method_8_code 37 = .ok (.iload_n 1, 1) := by decide +kernel
theorem d_C_setOther_38 : decode prog_2_method_8_code 38 = .ok (.iaload, 1) := by decide +kernel
theorem d_C_setOther_39 : decode prog_2_method_8_code 39 = .ok (.iload 4, 2) := by decide +kernel
theorem d_C_setOther_41 : decode prog_2_method_8_code 41 = .ok (.if_icmp .eq 7, 3) := by decide +kernel
theorem d_C_setOther_44 : decode prog_2_method_8_code 44 = .ok (.iconst 1, 1) := by decide +kernel
theorem d_C_setOther_45 : decode prog_2_method_8_code 45 = .ok (.goto 4, 3) := by decide +kernel
theorem d_C_setOther_48 : decode prog_2_method_8_code 48 = .ok (.iconst 0, 1) := by decide +kernel
theorem d_C_setOther_49 : decode prog_2_method_8_code 49 = .ok (.ireturn, 1) := by decide +kernel
theorem d_X_restsOn_0 : decode prog_1_method_7_code 0 = .ok (.aload_n 0, 1) := by decide +kernel
theorem d_X_restsOn_1 : decode prog_1_method_7_code 1 = .ok (.iload_n 1, 1) := by decide +kernel
theorem d_X_restsOn_2 : decode prog_1_method_7_code 2 = .ok (.invokevirtual 87, 3) := by decide +kernel
theorem d_X_restsOn_5 : decode prog_1_method_7_code 5 = .ok (.aload_n 0, 1) := by decide +kernel
theorem d_X_restsOn_6 : decode prog_1_method_7_code 6 = .ok (.iload_n 2, 1) := by decide +kernel
theorem d_X_restsOn_7 : decode prog_1_method_7_code 7 = .ok (.invokevirtual 87, 3) := by decide +kernel
theorem d_X_restsOn_10 : decode prog_1_method_7_code 10 = .ok (.aload_n 0, 1) := by decide +kernel
theorem d_X_restsOn_11 : decode prog_1_method_7_code 11 = .ok (.getfield 26, 3) := by decide +kernel
theorem d_X_restsOn_14 : decode prog_1_method_7_code 14 = .ok (.iload_n 1, 1) := by decide +kernel
theorem d_X_restsOn_15 : decode prog_1_method_7_code 15 = .ok (.iload_n 2, 1) := by decide +kernel
theorem d_X_restsOn_16 : decode prog_1_method_7_code 16 = .ok (.invokevirtual 97, 3) := by decide +kernel
theorem d_X_restsOn_19 : decode prog_1_method_7_code 19 = .ok (.ifCond .eq 5, 3) := by decide +kernel
theorem d_X_restsOn_22 : decode prog_1_method_7_code 22 = .ok (.iconst 0, 1) := by decide +kernel
theorem d_X_restsOn_23 : decode prog_1_method_7_code 23 = .ok (.ireturn, 1) := by decide +kernel
theorem d_X_restsOn_24 : decode prog_1_method_7_code 24 = .ok (.aload_n 0, 1) := by decide +kernel
theorem d_X_restsOn_25 : decode prog_1_method_7_code 25 = .ok (.getfield 26, 3) := by decide +kernel
theorem d_X_restsOn_28 : decode prog_1_method_7_code 28 = .ok (.iload_n 1, 1) := by decide +kernel
theorem d_X_restsOn_29 : decode prog_1_method_7_code 29 = .ok (.iload_n 2, 1) := by decide +kernel
theorem d_X_restsOn_30 : decode prog_1_method_7_code 30 = .ok (.invokevirtual 101, 3) := by decide +kernel
theorem d_X_restsOn_33 : decode prog_1_method_7_code 33 = .ok (.ifCond .eq 5, 3) := by decide +kernel
theorem d_X_restsOn_36 : decode prog_1_method_7_code 36 = .ok (.iconst (-1), 1) := by decide +kernel
theorem d_X_restsOn_37 : decode prog_1_method_7_code 37 = .ok (.ireturn, 1) := by decide +kernel
theorem d_X_restsOn_38 : decode prog_1_method_7_code 38 = .ok (.aload_n 0, 1) := by decide +kernel
theorem d_X_restsOn_39 : decode prog_1_method_7_code 39 = .ok (.getfield 26, 3) := by decide +kernel
theorem d_X_restsOn_42 : decode prog_1_method_7_code 42 = .ok (.iload_n 1, 1) := by decide +kernel
theorem d_X_restsOn_43 : decode prog_1_method_7_code 43 = .ok (.iload_n 2, 1) := by decide +kernel
theorem d_X_restsOn_44 : decode prog_1_method_7_code 44 = .ok (.iconst 1, 1) := by decide +kernel
theorem d_X_restsOn_45 : decode prog_1_method_7_code 45 = .ok (.invokevirtual 104, 3) := by decide +kernel
theorem d_X_restsOn_48 : decode prog_1_method_7_code 48 = .ok (.pop, 1) := by decide +kernel
theorem d_X_restsOn_49 : decode prog_1_method_7_code 49 = .ok (.iconst 1, 1) := by decide +kernel
theorem d_X_restsOn_50 : decode prog_1_method_7_code 50 = .ok (.ireturn, 1) := by decide +kernel
theorem d_X_requirePlace_0 : decode prog_1_method_25_code 0 = .ok (.iload_n 0, 1) := by decide +kernel
theorem d_X_requirePlace_1 : decode prog_1_method_25_code 1 = .ok (.ifCond .ge 13, 3) := by decide +kernel
theorem d_X_requirePlace_4 : decode prog_1_method_25_code 4 = .ok (.new 165, 3) := by decide +kernel
theorem d_X_requirePlace_7 : decode prog_1_method_25_code 7 = .ok (.dup, 1) := by decide +kernel
theorem d_X_requirePlace_8 : decode prog_1_method_25_code 8 = .ok (.ldc 197, 2) := by decide +kernel
theorem d_X_requirePlace_10 : decode prog_1_method_25_code 10 = .ok (.invokespecial 169, 3) := by decide +kernel
theorem d_X_requirePlace_13 : decode prog_1_method_25_code 13 = .ok (.athrow, 1) := by decide +kernel
theorem d_X_requirePlace_14 : decode prog_1_method_25_code 14 = .ok (.return_, 1) := by decide +kernel
theorem d_C_ringPlace_0 : decode prog_2_method_11_code 0 = .ok (.iload_n 1, 1) := by decide +kernel
theorem d_C_ringPlace_1 : decode prog_2_method_11_code 1 = .ok (.ifCond .lt 20, 3) := by decide +kernel
theorem d_C_ringPlace_4 : decode prog_2_method_11_code 4 = .ok (.iload_n 1, 1) := by decide +kernel
theorem d_C_ringPlace_5 : decode prog_2_method_11_code 5 = .ok (.aload_n 0, 1) := by decide +kernel
theorem d_C_ringPlace_6 : decode prog_2_method_11_code 6 = .ok (.getfield 48, 3) := by decide +kernel
theorem d_C_ringPlace_9 : decode prog_2_method_11_code 9 = .ok (.if_icmp .ge 12, 3) := by decide +kernel
theorem d_C_ringPlace_12 : decode prog_2_method_11_code 12 = .ok (.aload_n 0, 1) := by decide +kernel
theorem d_C_ringPlace_13 : decode prog_2_method_11_code 13 = .ok (.getfield 21, 3) := by decide +kernel
theorem d_C_ringPlace_16 : decode prog_2_method_11_code 16 = .ok (.iload_n 1, 1) := by decide +kernel
theorem d_C_ringPlace_17 : decode prog_2_method_11_code 17 = .ok (.iaload, 1) := by decide +kernel
theorem d_C_ringPlace_18 : decode prog_2_method_11_code 18 = .ok (.goto 4, 3) := by decide +kernel
theorem d_C_ringPlace_21 : decode prog_2_method_11_code 21 = .ok (.iconst (-1), 1) := by decide +kernel
theorem d_C_ringPlace_22 : decode prog_2_method_11_code 22 = .ok (.ireturn, 1) := by decide +kernel
theorem d_X_ring_0 : decode prog_1_method_8_code 0 = .ok (.iload_n 1, 1) := by decide +kernel
theorem d_X_ring_1 : decode prog_1_method_8_code 1 = .ok (.invokestatic 107, 3) := by decide +kernel
theorem d_X_ring_4 : decode prog_1_method_8_code 4 = .ok (.aload_n 0, 1) := by decide +kernel
theorem d_X_ring_5 : decode prog_1_method_8_code 5 = .ok (.getfield 26, 3) := by decide +kernel
theorem d_X_ring_8 : decode prog_1_method_8_code 8 = .ok (.iload_n 1, 1) := by decide +kernel
theorem d_X_ring_9 : decode prog_1_method_8_code 9 = .ok (.invokevirtual 110, 3) := by decide +kernel
theorem d_X_ring_12 : decode prog_1_method_8_code 12 = .ok (.ireturn, 1) := by decide +kernel
theorem d_X_lift_0 : decode prog_1_method_9_code 0 = .ok (.aload_n 0, 1) := by decide +kernel
theorem d_X_lift_1 : decode prog_1_method_9_code 1 = .ok (.iload_n 1, 1) := by decide +kernel
theorem d_X_lift_2 : decode prog_1_method_9_code 2 = .ok (.invokevirtual 87, 3) := by decide +kernel
theorem d_X_lift_5 : decode prog_1_method_9_code 5 = .ok (.aload_n 0, 1) := by decide +kernel
theorem d_X_lift_6 : decode prog_1_method_9_code 6 = .ok (.iload_n 2, 1) := by decide +kernel
theorem d_X_lift_7 : decode prog_1_method_9_code 7 = .ok (.invokevirtual 87, 3) := by decide +kernel
theorem d_X_lift_10 : decode prog_1_method_9_code 10 = .ok (.aload_n 0, 1) := by decide +kernel
theorem d_X_lift_11 : decode prog_1_method_9_code 11 = .ok (.getfield 26, 3) := by decide +kernel
theorem d_X_lift_14 : decode prog_1_method_9_code 14 = .ok (.iload_n 1, 1) := by decide +kernel
theorem d_X_lift_15 : decode prog_1_method_9_code 15 = .ok (.iload_n 2, 1) := by decide +kernel
theorem d_X_lift_16 : decode prog_1_method_9_code 16 = .ok (.iconst 0, 1) := by decide +kernel
theorem d_X_lift_17 : decode prog_1_method_9_code 17 = .ok (.invokevirtual 104, 3) := by decide +kernel
theorem d_X_lift_20 : decode prog_1_method_9_code 20 = .ok (.ireturn, 1) := by decide +kernel
theorem d_S_setWithdrawal_0 : decode prog_4_method_6_code 0 = .ok (.aload_n 0, 1) := by decide +kernel
theorem d_S_setWithdrawal_1 : decode prog_4_method_6_code 1 = .ok (.getfield 18, 3) := by decide +kernel
theorem d_S_setWithdrawal_4 : decode prog_4_method_6_code 4 = .ok (.iload_n 1, 1) := by decide +kernel
theorem d_S_setWithdrawal_5 : decode prog_4_method_6_code 5 = .ok (.iaload, 1) := by decide +kernel
theorem d_S_setWithdrawal_6 : decode prog_4_method_6_code 6 = .ok (.istore_n 3, 1) := by decide +kernel
theorem d_S_setWithdrawal_7 : decode prog_4_method_6_code 7 = .ok (.aload_n 0, 1) := by decide +kernel
theorem d_S_setWithdrawal_8 : decode prog_4_method_6_code 8 = .ok (.getfield 18, 3) := by decide +kernel
theorem d_S_setWithdrawal_11 : decode prog_4_method_6_code 11 = .ok (.iload_n 1, 1) := by decide +kernel
theorem d_S_setWithdrawal_12 : decode prog_4_method_6_code 12 = .ok (.iload_n 2, 1) := by decide +kernel
theorem d_S_setWithdrawal_13 : decode prog_4_method_6_code 13 = .ok (.iastore, 1) := by decide +kernel
theorem d_S_setWithdrawal_14 : decode prog_4_method_6_code 14 = .ok (.iload_n 3, 1) := by decide +kernel
theorem d_S_setWithdrawal_15 : decode prog_4_method_6_code 15 = .ok (.ireturn, 1) := by decide +kernel
theorem d_X_withdraw_0 : decode prog_1_method_10_code 0 = .ok (.aload_n 0, 1) := by decide +kernel
theorem d_X_withdraw_1 : decode prog_1_method_10_code 1 = .ok (.iload_n 1, 1) := by decide +kernel
theorem d_X_withdraw_2 : decode prog_1_method_10_code 2 = .ok (.invokevirtual 90, 3) := by decide +kernel
theorem d_X_withdraw_5 : decode prog_1_method_10_code 5 = .ok (.iload_n 2, 1) := by decide +kernel
theorem d_X_withdraw_6 : decode prog_1_method_10_code 6 = .ok (.iconst (-1), 1) := by decide +kernel
theorem d_X_withdraw_7 : decode prog_1_method_10_code 7 = .ok (.if_icmp .eq 7, 3) := by decide +kernel
theorem d_X_withdraw_10 : decode prog_1_method_10_code 10 = .ok (.iload_n 2, 1) := by decide +kernel
theorem d_X_withdraw_11 : decode prog_1_method_10_code 11 = .ok (.invokestatic 66, 3) := by decide +kernel
theorem d_X_withdraw_14 : decode prog_1_method_10_code 14 = .ok (.aload_n 0, 1) := by decide +kernel
theorem d_X_withdraw_15 : decode prog_1_method_10_code 15 = .ok (.getfield 19, 3) := by decide +kernel
theorem d_X_withdraw_18 : decode prog_1_method_10_code 18 = .ok (.iload_n 1, 1) := by decide +kernel
theorem d_X_withdraw_19 : decode prog_1_method_10_code 19 = .ok (.iload_n 2, 1) := by decide +kernel
theorem d_X_withdraw_20 : decode prog_1_method_10_code 20 = .ok (.invokevirtual 113, 3) := by decide +kernel
theorem d_X_withdraw_23 : decode prog_1_method_10_code 23 = .ok (.ireturn, 1) := by decide +kernel
theorem d_X_requirePerson_0 : decode prog_1_method_23_code 0 = .ok (.iload_n 0, 1) := by decide +kernel
theorem d_X_requirePerson_1 : decode prog_1_method_23_code 1 = .ok (.iconst 0, 1) := by decide +kernel
theorem d_X_requirePerson_2 : decode prog_1_method_23_code 2 = .ok (.bipush 31, 2) := by decide +kernel
theorem d_X_requirePerson_4 : decode prog_1_method_23_code 4 = .ok (.invokestatic 37, 3) := by decide +kernel
theorem d_X_requirePerson_7 : decode prog_1_method_23_code 7 = .ok (.ifCond .ne 13, 3) := by decide +kernel
theorem d_X_requirePerson_10 : decode prog_1_method_23_code 10 = .ok (.new 165, 3) := by decide +kernel
theorem d_X_requirePerson_13 : decode prog_1_method_23_code 13 = .ok (.dup, 1) := by decide +kernel
theorem d_X_requirePerson_14 : decode prog_1_method_23_code 14 = .ok (.ldc 193, 2) := by decide +kernel
theorem d_X_requirePerson_16 : decode prog_1_method_23_code 16 = .ok (.invokespecial 169, 3) := by decide +kernel
theorem d_X_requirePerson_19 : decode prog_1_method_23_code 19 = .ok (.athrow, 1) := by decide +kernel
theorem d_X_requirePerson_20 : decode prog_1_method_23_code 20 = .ok (.return_, 1) := by decide +kernel
theorem d_O_find_0 : decode prog_3_method_3_code 0 = .ok (.iconst 0, 1) := by decide +kernel
theorem d_O_find_1 : decode prog_3_method_3_code 1 = .ok (.istore 4, 2) := by decide +kernel
theorem d_O_find_3 : decode prog_3_method_3_code 3 = .ok (.iload 4, 2) := by decide +kernel
theorem d_O_find_5 : decode prog_3_method_3_code 5 = .ok (.aload_n 0, 1) := by decide +kernel
theorem d_O_find_6 : decode prog_3_method_3_code 6 = .ok (.getfield 33, 3) := by decide +kernel
theorem d_O_find_9 : decode prog_3_method_3_code 9 = .ok (.if_icmp .ge 45, 3) := by decide +kernel
theorem d_O_find_12 : decode prog_3_method_3_code 12 = .ok (.aload_n 0, 1) := by decide +kernel
theorem d_O_find_13 : decode prog_3_method_3_code 13 = .ok (.getfield 9, 3) := by decide +kernel
theorem d_O_find_16 : decode prog_3_method_3_code 16 = .ok (.iload 4, 2) := by decide +kernel
theorem d_O_find_18 : decode prog_3_method_3_code 18 = .ok (.iaload, 1) := by decide +kernel
theorem d_O_find_19 : decode prog_3_method_3_code 19 = .ok (.iload_n 1, 1) := by decide +kernel
theorem d_O_find_20 : decode prog_3_method_3_code 20 = .ok (.if_icmp .ne 28, 3) := by decide +kernel
theorem d_O_find_23 : decode prog_3_method_3_code 23 = .ok (.aload_n 0, 1) := by decide +kernel
theorem d_O_find_24 : decode prog_3_method_3_code 24 = .ok (.getfield 15, 3) := by decide +kernel
theorem d_O_find_27 : decode prog_3_method_3_code 27 = .ok (.iload 4, 2) := by decide +kernel
theorem d_O_find_29 : decode prog_3_method_3_code 29 = .ok (.iaload, 1) := by decide +kernel
theorem d_O_find_30 : decode prog_3_method_3_code 30 = .ok (.iload_n 2, 1) := by decide +kernel
theorem d_O_find_31 : decode prog_3_method_3_code 31 = .ok (.if_icmp .ne 17, 3) := by decide +kernel
theorem d_O_find_34 : decode prog_3_method_3_code 34 = .ok (.aload_n 0, 1) := by decide +kernel
theorem d_O_find_35 : decode prog_3_method_3_code 35 = .ok (.getfield 18, 3) := by decide +kernel
theorem d_O_find_38 : decode prog_3_method_3_code 38 = .ok (.iload 4, 2) := by decide +kernel
theorem d_O_find_40 : decode prog_3_method_3_code 40 = .ok (.iaload, 1) := by decide +kernel
theorem d_O_find_41 : decode prog_3_method_3_code 41 = .ok (.iload_n 3, 1) := by decide +kernel
theorem d_O_find_42 : decode prog_3_method_3_code 42 = .ok (.if_icmp .ne 6, 3) := by decide +kernel
theorem d_O_find_45 : decode prog_3_method_3_code 45 = .ok (.iload 4, 2) := by decide +kernel
theorem d_O_find_47 : decode prog_3_method_3_code 47 = .ok (.ireturn, 1) := by decide +kernel
theorem d_O_find_48 : decode prog_3_method_3_code 48 = .ok (.iinc 4 1, 3) := by decide +kernel
theorem d_O_find_51 : decode prog_3_method_3_code 51 = .ok (.goto (-48), 3) := by decide +kernel
theorem d_O_find_54 : decode prog_3_method_3_code 54 = .ok (.iconst (-1), 1) := by decide +kernel
theorem d_O_find_55 : decode prog_3_method_3_code 55 = .ok (.ireturn, 1) := by decide +kernel
theorem d_O_made_0 : decode prog_3_method_2_code 0 = .ok (.aload_n 0, 1) := by decide +kernel
theorem d_O_made_1 : decode prog_3_method_2_code 1 = .ok (.getfield 33, 3) := by decide +kernel
theorem d_O_made_4 : decode prog_3_method_2_code 4 = .ok (.ireturn, 1) := by decide +kernel
theorem d_O_add_0 : decode prog_3_method_4_code 0 = .ok (.aload_n 0, 1) := by decide +kernel
theorem d_O_add_1 : decode prog_3_method_4_code 1 = .ok (.getfield 33, 3) := by decide +kernel
theorem d_O_add_4 : decode prog_3_method_4_code 4 = .ok (.istore 4, 2) := by decide +kernel
theorem d_O_add_6 : decode prog_3_method_4_code 6 = .ok (.aload_n 0, 1) := by decide +kernel
theorem d_O_add_7 : decode prog_3_method_4_code 7 = .ok (.getfield 9, 3) := by decide +kernel
theorem d_O_add_10 : decode prog_3_method_4_code 10 = .ok (.iload 4, 2) := by decide +kernel
theorem d_O_add_12 : decode prog_3_method_4_code 12 = .ok (.iload_n 1, 1) := by decide +kernel
theorem d_O_add_13 : decode prog_3_method_4_code 13 = .ok (.iastore, 1) := by decide +kernel
theorem d_O_add_14 : decode prog_3_method_4_code 14 = .ok (.aload_n 0, 1) := by decide +kernel
theorem d_O_add_15 : decode prog_3_method_4_code 15 = .ok (.getfield 15, 3) := by decide +kernel
theorem d_O_add_18 : decode prog_3_method_4_code 18 = .ok (.iload 4, 2) := by decide +kernel
theorem d_O_add_20 : decode prog_3_method_4_code 20 = .ok (.iload_n 2, 1) := by decide +kernel
theorem d_O_add_21 : decode prog_3_method_4_code 21 = .ok (.iastore, 1) := by decide +kernel
theorem d_O_add_22 : decode prog_3_method_4_code 22 = .ok (.aload_n 0, 1) := by decide +kernel
theorem d_O_add_23 : decode prog_3_method_4_code 23 = .ok (.getfield 18, 3) := by decide +kernel
theorem d_O_add_26 : decode prog_3_method_4_code 26 = .ok (.iload 4, 2) := by decide +kernel
theorem d_O_add_28 : decode prog_3_method_4_code 28 = .ok (.iload_n 3, 1) := by decide +kernel
theorem d_O_add_29 : decode prog_3_method_4_code 29 = .ok (.iastore, 1) := by decide +kernel
theorem d_O_add_30 : decode prog_3_method_4_code 30 = .ok (.aload_n 0, 1) := by decide +kernel
theorem d_O_add_31 : decode prog_3_method_4_code 31 = .ok (.dup, 1) := by decide +kernel
theorem d_O_add_32 : decode prog_3_method_4_code 32 = .ok (.getfield 33, 3) := by decide +kernel
theorem d_O_add_35 : decode prog_3_method_4_code 35 = .ok (.iconst 1, 1) := by decide +kernel
theorem d_O_add_36 : decode prog_3_method_4_code 36 = .ok (.iadd, 1) := by decide +kernel
theorem d_O_add_37 : decode prog_3_method_4_code 37 = .ok (.putfield 33, 3) := by decide +kernel
theorem d_O_add_40 : decode prog_3_method_4_code 40 = .ok (.iload 4, 2) := by decide +kernel
theorem d_O_add_42 : decode prog_3_method_4_code 42 = .ok (.ireturn, 1) := by decide +kernel
theorem d_O_say_0 : decode prog_3_method_5_code 0 = .ok (.aload_n 0, 1) := by decide +kernel
theorem d_O_say_1 : decode prog_3_method_5_code 1 = .ok (.getfield 21, 3) := by decide +kernel
theorem d_O_say_4 : decode prog_3_method_5_code 4 = .ok (.iload_n 1, 1) := by decide +kernel
theorem d_O_say_5 : decode prog_3_method_5_code 5 = .ok (.iload_n 2, 1) := by decide +kernel
theorem d_O_say_6 : decode prog_3_method_5_code 6 = .ok (.iastore, 1) := by decide +kernel
theorem d_O_say_7 : decode prog_3_method_5_code 7 = .ok (.aload_n 0, 1) := by decide +kernel
theorem d_O_say_8 : decode prog_3_method_5_code 8 = .ok (.getfield 24, 3) := by decide +kernel
theorem d_O_say_11 : decode prog_3_method_5_code 11 = .ok (.iload_n 1, 1) := by decide +kernel
theorem d_O_say_12 : decode prog_3_method_5_code 12 = .ok (.iload_n 3, 1) := by decide +kernel
theorem d_O_say_13 : decode prog_3_method_5_code 13 = .ok (.iastore, 1) := by decide +kernel
theorem d_O_say_14 : decode prog_3_method_5_code 14 = .ok (.return_, 1) := by decide +kernel
theorem d_O_numberOf_0 : decode prog_3_method_6_code 0 = .ok (.iconst 0, 1) := by decide +kernel
theorem d_O_numberOf_1 : decode prog_3_method_6_code 1 = .ok (.istore_n 2, 1) := by decide +kernel
theorem d_O_numberOf_2 : decode prog_3_method_6_code 2 = .ok (.iconst 0, 1) := by decide +kernel
theorem d_O_numberOf_3 : decode prog_3_method_6_code 3 = .ok (.istore_n 3, 1) := by decide +kernel
theorem d_O_numberOf_4 : decode prog_3_method_6_code 4 = .ok (.iload_n 3, 1) := by decide +kernel
theorem d_O_numberOf_5 : decode prog_3_method_6_code 5 = .ok (.aload_n 0, 1) := by decide +kernel
theorem d_O_numberOf_6 : decode prog_3_method_6_code 6 = .ok (.getfield 33, 3) := by decide +kernel
theorem d_O_numberOf_9 : decode prog_3_method_6_code 9 = .ok (.if_icmp .ge 22, 3) := by decide +kernel
theorem d_O_numberOf_12 : decode prog_3_method_6_code 12 = .ok (.aload_n 0, 1) := by decide +kernel
theorem d_O_numberOf_13 : decode prog_3_method_6_code 13 = .ok (.getfield 15, 3) := by decide +kernel
theorem d_O_numberOf_16 : decode prog_3_method_6_code 16 = .ok (.iload_n 3, 1) := by decide +kernel
theorem d_O_numberOf_17 : decode prog_3_method_6_code 17 = .ok (.iaload, 1) := by decide +kernel
theorem d_O_numberOf_18 : decode prog_3_method_6_code 18 = .ok (.iload_n 1, 1) := by decide +kernel
theorem d_O_numberOf_19 : decode prog_3_method_6_code 19 = .ok (.if_icmp .ne 6, 3) := by decide +kernel
theorem d_O_numberOf_22 : decode prog_3_method_6_code 22 = .ok (.iinc 2 1, 3) := by decide +kernel
theorem d_O_numberOf_25 : decode prog_3_method_6_code 25 = .ok (.iinc 3 1, 3) := by decide +kernel
theorem d_O_numberOf_28 : decode prog_3_method_6_code 28 = .ok (.goto (-24), 3) := by decide +kernel
theorem d_O_numberOf_31 : decode prog_3_method_6_code 31 = .ok (.iload_n 2, 1) := by decide +kernel
theorem d_O_numberOf_32 : decode prog_3_method_6_code 32 = .ok (.ireturn, 1) := by decide +kernel
theorem d_X_opinion_0 : decode prog_1_method_11_code 0 = .ok (.iload_n 1, 1) := by decide +kernel
theorem d_X_opinion_1 : decode prog_1_method_11_code 1 = .ok (.invokestatic 116, 3) := by decide +kernel
theorem d_X_opinion_4 : decode prog_1_method_11_code 4 = .ok (.aload_n 0, 1) := by decide +kernel
theorem d_X_opinion_5 : decode prog_1_method_11_code 5 = .ok (.iload_n 2, 1) := by decide +kernel
theorem d_X_opinion_6 : decode prog_1_method_11_code 6 = .ok (.invokevirtual 87, 3) := by decide +kernel
theorem d_X_opinion_9 : decode prog_1_method_11_code 9 = .ok (.iload_n 3, 1) := by decide +kernel
theorem d_X_opinion_10 : decode prog_1_method_11_code 10 = .ok (.iconst 0, 1) := by decide +kernel
theorem d_X_opinion_11 : decode prog_1_method_11_code 11 = .ok (.bipush 99, 2) := by decide +kernel
theorem d_X_opinion_13 : decode prog_1_method_11_code 13 = .ok (.invokestatic 37, 3) := by decide +kernel
theorem d_X_opinion_16 : decode prog_1_method_11_code 16 = .ok (.ifCond .ne 13, 3) := by decide +kernel
theorem d_X_opinion_19 : decode prog_1_method_11_code 19 = .ok (.new 41, 3) := by decide +kernel
theorem d_X_opinion_22 : decode prog_1_method_11_code 22 = .ok (.dup, 1) := by decide +kernel
theorem d_X_opinion_23 : decode prog_1_method_11_code 23 = .ok (.ldc 119, 2) := by decide +kernel
theorem d_X_opinion_25 : decode prog_1_method_11_code 25 = .ok (.invokespecial 45, 3) := by decide +kernel
theorem d_X_opinion_28 : decode prog_1_method_11_code 28 = .ok (.athrow, 1) := by decide +kernel
theorem d_X_opinion_29 : decode prog_1_method_11_code 29 = .ok (.iload 4, 2) := by decide +kernel
theorem d_X_opinion_31 : decode prog_1_method_11_code 31 = .ok (.invokestatic 66, 3) := by decide +kernel
theorem d_X_opinion_34 : decode prog_1_method_11_code 34 = .ok (.iload 5, 2) := by decide +kernel
theorem d_X_opinion_36 : decode prog_1_method_11_code 36 = .ok (.iconst 0, 1) := by decide +kernel
theorem d_X_opinion_37 : decode prog_1_method_11_code 37 = .ok (.bipush 9, 2) := by decide +kernel
theorem d_X_opinion_39 : decode prog_1_method_11_code 39 = .ok (.invokestatic 37, 3) := by decide +kernel
theorem d_X_opinion_42 : decode prog_1_method_11_code 42 = .ok (.ifCond .ne 13, 3) := by decide +kernel
theorem d_X_opinion_45 : decode prog_1_method_11_code 45 = .ok (.new 41, 3) := by decide +kernel
theorem d_X_opinion_48 : decode prog_1_method_11_code 48 = .ok (.dup, 1) := by decide +kernel
theorem d_X_opinion_49 : decode prog_1_method_11_code 49 = .ok (.ldc 121, 2) := by decide +kernel
theorem d_X_opinion_51 : decode prog_1_method_11_code 51 = .ok (.invokespecial 45, 3) := by decide +kernel
theorem d_X_opinion_54 : decode prog_1_method_11_code 54 = .ok (.athrow, 1) := by decide +kernel
theorem d_X_opinion_55 : decode prog_1_method_11_code 55 = .ok (.aload_n 0, 1) := by decide +kernel
theorem d_X_opinion_56 : decode prog_1_method_11_code 56 = .ok (.getfield 33, 3) := by decide +kernel
theorem d_X_opinion_59 : decode prog_1_method_11_code 59 = .ok (.iload_n 1, 1) := by decide +kernel
theorem d_X_opinion_60 : decode prog_1_method_11_code 60 = .ok (.iload_n 2, 1) := by decide +kernel
theorem d_X_opinion_61 : decode prog_1_method_11_code 61 = .ok (.iload 4, 2) := by decide +kernel
theorem d_X_opinion_63 : decode prog_1_method_11_code 63 = .ok (.invokevirtual 123, 3) := by decide +kernel
theorem d_X_opinion_66 : decode prog_1_method_11_code 66 = .ok (.istore 6, 2) := by decide +kernel
theorem d_X_opinion_68 : decode prog_1_method_11_code 68 = .ok (.iload 6, 2) := by decide +kernel
theorem d_X_opinion_70 : decode prog_1_method_11_code 70 = .ok (.iconst (-1), 1) := by decide +kernel
theorem d_X_opinion_71 : decode prog_1_method_11_code 71 = .ok (.if_icmp .ne 39, 3) := by decide +kernel
theorem d_X_opinion_74 : decode prog_1_method_11_code 74 = .ok (.aload_n 0, 1) := by decide +kernel
theorem d_X_opinion_75 : decode prog_1_method_11_code 75 = .ok (.getfield 33, 3) := by decide +kernel
theorem d_X_opinion_78 : decode prog_1_method_11_code 78 = .ok (.invokevirtual 127, 3) := by decide +kernel
theorem d_X_opinion_81 : decode prog_1_method_11_code 81 = .ok (.sipush 300, 3) := by decide +kernel
theorem d_X_opinion_84 : decode prog_1_method_11_code 84 = .ok (.if_icmp .lt 13, 3) := by decide +kernel
theorem d_X_opinion_87 : decode prog_1_method_11_code 87 = .ok (.new 52, 3) := by decide +kernel
theorem d_X_opinion_90 : decode prog_1_method_11_code 90 = .ok (.dup, 1) := by decide +kernel
theorem d_X_opinion_91 : decode prog_1_method_11_code 91 = .ok (.ldc 128, 2) := by decide +kernel
theorem d_X_opinion_93 : decode prog_1_method_11_code 93 = .ok (.invokespecial 56, 3) := by decide +kernel
theorem d_X_opinion_96 : decode prog_1_method_11_code 96 = .ok (.athrow, 1) := by decide +kernel
theorem d_X_opinion_97 : decode prog_1_method_11_code 97 = .ok (.aload_n 0, 1) := by decide +kernel
theorem d_X_opinion_98 : decode prog_1_method_11_code 98 = .ok (.getfield 33, 3) := by decide +kernel
theorem d_X_opinion_101 : decode prog_1_method_11_code 101 = .ok (.iload_n 1, 1) := by decide +kernel
theorem d_X_opinion_102 : decode prog_1_method_11_code 102 = .ok (.iload_n 2, 1) := by decide +kernel
theorem d_X_opinion_103 : decode prog_1_method_11_code 103 = .ok (.iload 4, 2) := by decide +kernel
theorem d_X_opinion_105 : decode prog_1_method_11_code 105 = .ok (.invokevirtual 130, 3) := by decide +kernel
theorem d_X_opinion_108 : decode prog_1_method_11_code 108 = .ok (.istore 6, 2) := by decide +kernel
theorem d_X_opinion_110 : decode prog_1_method_11_code 110 = .ok (.aload_n 0, 1) := by decide +kernel
theorem d_X_opinion_111 : decode prog_1_method_11_code 111 = .ok (.getfield 33, 3) := by decide +kernel
theorem d_X_opinion_114 : decode prog_1_method_11_code 114 = .ok (.iload 6, 2) := by decide +kernel
theorem d_X_opinion_116 : decode prog_1_method_11_code 116 = .ok (.iload_n 3, 1) := by decide +kernel
theorem d_X_opinion_117 : decode prog_1_method_11_code 117 = .ok (.iload 5, 2) := by decide +kernel
theorem d_X_opinion_119 : decode prog_1_method_11_code 119 = .ok (.invokevirtual 132, 3) := by decide +kernel
theorem d_X_opinion_122 : decode prog_1_method_11_code 122 = .ok (.aload_n 0, 1) := by decide +kernel
theorem d_X_opinion_123 : decode prog_1_method_11_code 123 = .ok (.getfield 33, 3) := by decide +kernel
theorem d_X_opinion_126 : decode prog_1_method_11_code 126 = .ok (.iload_n 2, 1) := by decide +kernel
theorem d_X_opinion_127 : decode prog_1_method_11_code 127 = .ok (.invokevirtual 136, 3) := by decide +kernel
theorem d_X_opinion_130 : decode prog_1_method_11_code 130 = .ok (.ireturn, 1) := by decide +kernel
theorem d_C_setRule_0 : decode prog_2_method_5_code 0 = .ok (.aload_n 0, 1) := by decide +kernel
theorem d_C_setRule_1 : decode prog_2_method_5_code 1 = .ok (.getfield 18, 3) := by decide +kernel
theorem d_C_setRule_4 : decode prog_2_method_5_code 4 = .ok (.iload_n 1, 1) := by decide +kernel
theorem d_C_setRule_5 : decode prog_2_method_5_code 5 = .ok (.iaload, 1) := by decide +kernel
theorem d_C_setRule_6 : decode prog_2_method_5_code 6 = .ok (.istore_n 3, 1) := by decide +kernel
theorem d_C_setRule_7 : decode prog_2_method_5_code 7 = .ok (.aload_n 0, 1) := by decide +kernel
theorem d_C_setRule_8 : decode prog_2_method_5_code 8 = .ok (.getfield 18, 3) := by decide +kernel
theorem d_C_setRule_11 : decode prog_2_method_5_code 11 = .ok (.iload_n 1, 1) := by decide +kernel
theorem d_C_setRule_12 : decode prog_2_method_5_code 12 = .ok (.iload_n 2, 1) := by decide +kernel
theorem d_C_setRule_13 : decode prog_2_method_5_code 13 = .ok (.iastore, 1) := by decide +kernel
theorem d_C_setRule_14 : decode prog_2_method_5_code 14 = .ok (.iload_n 3, 1) := by decide +kernel
theorem d_C_setRule_15 : decode prog_2_method_5_code 15 = .ok (.ireturn, 1) := by decide +kernel
theorem d_X_rule_0 : decode prog_1_method_12_code 0 = .ok (.aload_n 0, 1) := by decide +kernel
theorem d_X_rule_1 : decode prog_1_method_12_code 1 = .ok (.iload_n 1, 1) := by decide +kernel
theorem d_X_rule_2 : decode prog_1_method_12_code 2 = .ok (.invokevirtual 87, 3) := by decide +kernel
theorem d_X_rule_5 : decode prog_1_method_12_code 5 = .ok (.iload_n 2, 1) := by decide +kernel
theorem d_X_rule_6 : decode prog_1_method_12_code 6 = .ok (.iconst 0, 1) := by decide +kernel
theorem d_X_rule_7 : decode prog_1_method_12_code 7 = .ok (.iconst 2, 1) := by decide +kernel
theorem d_X_rule_8 : decode prog_1_method_12_code 8 = .ok (.invokestatic 37, 3) := by decide +kernel
theorem d_X_rule_11 : decode prog_1_method_12_code 11 = .ok (.ifCond .ne 13, 3) := by decide +kernel
theorem d_X_rule_14 : decode prog_1_method_12_code 14 = .ok (.new 41, 3) := by decide +kernel
theorem d_X_rule_17 : decode prog_1_method_12_code 17 = .ok (.dup, 1) := by decide +kernel
theorem d_X_rule_18 : decode prog_1_method_12_code 18 = .ok (.ldc 139, 2) := by decide +kernel
theorem d_X_rule_20 : decode prog_1_method_12_code 20 = .ok (.invokespecial 45, 3) := by decide +kernel
theorem d_X_rule_23 : decode prog_1_method_12_code 23 = .ok (.athrow, 1) := by decide +kernel
theorem d_X_rule_24 : decode prog_1_method_12_code 24 = .ok (.aload_n 0, 1) := by decide +kernel
theorem d_X_rule_25 : decode prog_1_method_12_code 25 = .ok (.getfield 26, 3) := by decide +kernel
theorem d_X_rule_28 : decode prog_1_method_12_code 28 = .ok (.iload_n 1, 1) := by decide +kernel
theorem d_X_rule_29 : decode prog_1_method_12_code 29 = .ok (.iload_n 2, 1) := by decide +kernel
theorem d_X_rule_30 : decode prog_1_method_12_code 30 = .ok (.invokevirtual 141, 3) := by decide +kernel
theorem d_X_rule_33 : decode prog_1_method_12_code 33 = .ok (.ireturn, 1) := by decide +kernel
theorem d_O_learn_0 : decode prog_3_method_7_code 0 = .ok (.aload_n 0, 1) := by decide +kernel
theorem d_O_learn_1 : decode prog_3_method_7_code 1 = .ok (.getfield 27, 3) := by decide +kernel
theorem d_O_learn_4 : decode prog_3_method_7_code 4 = .ok (.iconst (-1), 1) := by decide +kernel
theorem d_O_learn_5 : decode prog_3_method_7_code 5 = .ok (.invokestatic 37, 3) := by decide +kernel
theorem d_O_learn_8 : decode prog_3_method_7_code 8 = .ok (.iconst 0, 1) := by decide +kernel
theorem d_O_learn_9 : decode prog_3_method_7_code 9 = .ok (.istore_n 3, 1) := by decide +kernel
theorem d_O_learn_10 : decode prog_3_method_7_code 10 = .ok (.iload_n 3, 1) := by decide +kernel
theorem d_O_learn_11 : decode prog_3_method_7_code 11 = .ok (.aload_n 0, 1) := by decide +kernel
theorem d_O_learn_12 : decode prog_3_method_7_code 12 = .ok (.getfield 33, 3) := by decide +kernel
theorem d_O_learn_15 : decode prog_3_method_7_code 15 = .ok (.if_icmp .ge 76, 3) := by decide +kernel
theorem d_O_learn_18 : decode prog_3_method_7_code 18 = .ok (.aload_n 0, 1) := by decide +kernel
theorem d_O_learn_19 : decode prog_3_method_7_code 19 = .ok (.getfield 15, 3) := by decide +kernel
theorem d_O_learn_22 : decode prog_3_method_7_code 22 = .ok (.iload_n 3, 1) := by decide +kernel
theorem d_O_learn_23 : decode prog_3_method_7_code 23 = .ok (.iaload, 1) := by decide +kernel
theorem d_O_learn_24 : decode prog_3_method_7_code 24 = .ok (.iload_n 1, 1) := by decide +kernel
theorem d_O_learn_25 : decode prog_3_method_7_code 25 = .ok (.if_icmp .ne 60, 3) := by decide +kernel
theorem d_O_learn_28 : decode prog_3_method_7_code 28 = .ok (.aload_n 0, 1) := by decide +kernel
theorem d_O_learn_29 : decode prog_3_method_7_code 29 = .ok (.getfield 18, 3) := by decide +kernel
theorem d_O_learn_32 : decode prog_3_method_7_code 32 = .ok (.iload_n 3, 1) := by decide +kernel
theorem d_O_learn_33 : decode prog_3_method_7_code 33 = .ok (.iaload, 1) := by decide +kernel
theorem d_O_learn_34 : decode prog_3_method_7_code 34 = .ok (.iload_n 2, 1) := by decide +kernel
theorem d_O_learn_35 : decode prog_3_method_7_code 35 = .ok (.if_icmp .gt 50, 3) := by decide +kernel
theorem d_O_learn_38 : decode prog_3_method_7_code 38 = .ok (.aload_n 0, 1) := by decide +kernel
theorem d_O_learn_39 : decode prog_3_method_7_code 39 = .ok (.getfield 27, 3) := by decide +kernel
theorem d_O_learn_42 : decode prog_3_method_7_code 42 = .ok (.aload_n 0, 1) := by decide +kernel
theorem d_O_learn_43 : decode prog_3_method_7_code 43 = .ok (.getfield 9, 3) := by decide +kernel
theorem d_O_learn_46 : decode prog_3_method_7_code 46 = .ok (.iload_n 3, 1) := by decide +kernel
theorem d_O_learn_47 : decode prog_3_method_7_code 47 = .ok (.iaload, 1) := by decide +kernel
theorem d_O_learn_48 : decode prog_3_method_7_code 48 = .ok (.iaload, 1) := by decide +kernel
theorem d_O_learn_49 : decode prog_3_method_7_code 49 = .ok (.istore 4, 2) := by decide +kernel
theorem d_O_learn_51 : decode prog_3_method_7_code 51 = .ok (.iload 4, 2) := by decide +kernel
theorem d_O_learn_53 : decode prog_3_method_7_code 53 = .ok (.iconst (-1), 1) := by decide +kernel
theorem d_O_learn_54 : decode prog_3_method_7_code 54 = .ok (.if_icmp .eq 19, 3) := by decide +kernel
theorem d_O_learn_57 : decode prog_3_method_7_code 57 = .ok (.aload_n 0, 1) := by decide +kernel
theorem d_O_learn_58 : decode prog_3_method_7_code 58 = .ok (.getfield 18, 3) := by decide +kernel
theorem d_O_learn_61 : decode prog_3_method_7_code 61 = .ok (.iload 4, 2) := by decide +kernel
theorem d_O_learn_63 : decode prog_3_method_7_code 63 = .ok (.iaload, 1) := by decide +kernel
theorem d_O_learn_64 : decode prog_3_method_7_code 64 = .ok (.aload_n 0, 1) := by decide +kernel
theorem d_O_learn_65 : decode prog_3_method_7_code 65 = .ok (.getfield 18, 3) := by decide +kernel
theorem d_O_learn_68 : decode prog_3_method_7_code 68 = .ok (.iload_n 3, 1) := by decide +kernel
theorem d_O_learn_69 : decode prog_3_method_7_code 69 = .ok (.iaload, 1) := by decide +kernel
theorem d_O_learn_70 : decode prog_3_method_7_code 70 = .ok (.if_icmp .ge 15, 3) := by decide +kernel
theorem d_O_learn_73 : decode prog_3_method_7_code 73 = .ok (.aload_n 0, 1) := by decide +kernel
theorem d_O_learn_74 : decode prog_3_method_7_code 74 = .ok (.getfield 27, 3) := by decide +kernel
theorem d_O_learn_77 : decode prog_3_method_7_code 77 = .ok (.aload_n 0, 1) := by decide +kernel
theorem d_O_learn_78 : decode prog_3_method_7_code 78 = .ok (.getfield 9, 3) := by decide +kernel
theorem d_O_learn_81 : decode prog_3_method_7_code 81 = .ok (.iload_n 3, 1) := by decide +kernel
theorem d_O_learn_82 : decode prog_3_method_7_code 82 = .ok (.iaload, 1) := by decide +kernel
theorem d_O_learn_83 : decode prog_3_method_7_code 83 = .ok (.iload_n 3, 1) := by decide +kernel
theorem d_O_learn_84 : decode prog_3_method_7_code 84 = .ok (.iastore, 1) := by decide +kernel
theorem d_O_learn_85 : decode prog_3_method_7_code 85 = .ok (.iinc 3 1, 3) := by decide +kernel
theorem d_O_learn_88 : decode prog_3_method_7_code 88 = .ok (.goto (-78), 3) := by decide +kernel
theorem d_O_learn_91 : decode prog_3_method_7_code 91 = .ok (.return_, 1) := by decide +kernel
theorem d_S_isWithdrawn_0 : decode prog_4_method_8_code 0 = .ok (.aload_n 0, 1) := by decide +kernel
theorem d_S_isWithdrawn_1 : decode prog_4_method_8_code 1 = .ok (.getfield 18, 3) := by decide +kernel
theorem d_S_isWithdrawn_4 : decode prog_4_method_8_code 4 = .ok (.iload_n 1, 1) := by decide +kernel
theorem d_S_isWithdrawn_5 : decode prog_4_method_8_code 5 = .ok (.iaload, 1) := by decide +kernel
theorem d_S_isWithdrawn_6 : decode prog_4_method_8_code 6 = .ok (.iconst (-1), 1) := by decide +kernel
theorem d_S_isWithdrawn_7 : decode prog_4_method_8_code 7 = .ok (.if_icmp .eq 17, 3) := by decide +kernel
theorem d_S_isWithdrawn_10 : decode prog_4_method_8_code 10 = .ok (.aload_n 0, 1) := by decide +kernel
theorem d_S_isWithdrawn_11 : decode prog_4_method_8_code 11 = .ok (.getfield 18, 3) := by decide +kernel
theorem d_S_isWithdrawn_14 : decode prog_4_method_8_code 14 = .ok (.iload_n 1, 1) := by decide +kernel
theorem d_S_isWithdrawn_15 : decode prog_4_method_8_code 15 = .ok (.iaload, 1) := by decide +kernel
theorem d_S_isWithdrawn_16 : decode prog_4_method_8_code 16 = .ok (.iload_n 2, 1) := by decide +kernel
theorem d_S_isWithdrawn_17 : decode prog_4_method_8_code 17 = .ok (.if_icmp .gt 7, 3) := by decide +kernel
theorem d_S_isWithdrawn_20 : decode prog_4_method_8_code 20 = .ok (.iconst 1, 1) := by decide +kernel
theorem d_S_isWithdrawn_21 : decode prog_4_method_8_code 21 = .ok (.goto 4, 3) := by decide +kernel
theorem d_S_isWithdrawn_24 : decode prog_4_method_8_code 24 = .ok (.iconst 0, 1) := by decide +kernel
theorem d_S_isWithdrawn_25 : decode prog_4_method_8_code 25 = .ok (.ireturn, 1) := by decide +kernel
theorem d_S_standingOn_0 : decode prog_4_method_7_code 0 = .ok (.iconst 0, 1) := by decide +kernel
theorem d_S_standingOn_1 : decode prog_4_method_7_code 1 = .ok (.istore_n 2, 1) := by decide +kernel
theorem d_S_standingOn_2 : decode prog_4_method_7_code 2 = .ok (.iconst 0, 1) := by decide +kernel
theorem d_S_standingOn_3 : decode prog_4_method_7_code 3 = .ok (.istore_n 3, 1) := by decide +kernel
theorem d_S_standingOn_4 : decode prog_4_method_7_code 4 = .ok (.iload_n 3, 1) := by decide +kernel
theorem d_S_standingOn_5 : decode prog_4_method_7_code 5 = .ok (.aload_n 0, 1) := by decide +kernel
theorem d_S_standingOn_6 : decode prog_4_method_7_code 6 = .ok (.getfield 21, 3) := by decide +kernel
theorem d_S_standingOn_9 : decode prog_4_method_7_code 9 = .ok (.if_icmp .ge 34, 3) := by decide +kernel
theorem d_S_standingOn_12 : decode prog_4_method_7_code 12 = .ok (.aload_n 0, 1) := by decide +kernel
theorem d_S_standingOn_13 : decode prog_4_method_7_code 13 = .ok (.getfield 15, 3) := by decide +kernel
theorem d_S_standingOn_16 : decode prog_4_method_7_code 16 = .ok (.iload_n 3, 1) := by decide +kernel
theorem d_S_standingOn_17 : decode prog_4_method_7_code 17 = .ok (.iaload, 1) := by decide +kernel
theorem d_S_standingOn_18 : decode prog_4_method_7_code 18 = .ok (.iload_n 1, 1) := by decide +kernel
theorem d_S_standingOn_19 : decode prog_4_method_7_code 19 = .ok (.if_icmp .gt 18, 3) := by decide +kernel
theorem d_S_standingOn_22 : decode prog_4_method_7_code 22 = .ok (.aload_n 0, 1) := by decide +kernel
theorem d_S_standingOn_23 : decode prog_4_method_7_code 23 = .ok (.iload_n 3, 1) := by decide +kernel
theorem d_S_standingOn_24 : decode prog_4_method_7_code 24 = .ok (.iload_n 1, 1) := by decide +kernel
theorem d_S_standingOn_25 : decode prog_4_method_7_code 25 = .ok (.invokevirtual 25, 3) := by decide +kernel
theorem d_S_standingOn_28 : decode prog_4_method_7_code 28 = .ok (.ifCond .ne 9, 3) := by decide +kernel
theorem d_S_standingOn_31 : decode prog_4_method_7_code 31 = .ok (.iload_n 2, 1) := by decide +kernel
theorem d_S_standingOn_32 : decode prog_4_method_7_code 32 = .ok (.iload_n 3, 1) := by decide +kernel
theorem d_S_standingOn_33 : decode prog_4_method_7_code 33 = .ok (.invokestatic 29, 3) := by decide +kernel
theorem d_S_standingOn_36 : decode prog_4_method_7_code 36 = .ok (.istore_n 2, 1) := by decide +kernel
theorem d_S_standingOn_37 : decode prog_4_method_7_code 37 = .ok (.iinc 3 1, 3) := by decide +kernel
theorem d_S_standingOn_40 : decode prog_4_method_7_code 40 = .ok (.goto (-36), 3) := by decide +kernel
theorem d_S_standingOn_43 : decode prog_4_method_7_code 43 = .ok (.iload_n 2, 1) := by decide +kernel
theorem d_S_standingOn_44 : decode prog_4_method_7_code 44 = .ok (.ireturn, 1) := by decide +kernel
theorem d_C_heldBy_0 : decode prog_2_method_10_code 0 = .ok (.iconst 0, 1) := by decide +kernel
theorem d_C_heldBy_1 : decode prog_2_method_10_code 1 = .ok (.istore_n 2, 1) := by decide +kernel
theorem d_C_heldBy_2 : decode prog_2_method_10_code 2 = .ok (.iconst 0, 1) := by decide +kernel
theorem d_C_heldBy_3 : decode prog_2_method_10_code 3 = .ok (.istore_n 3, 1) := by decide +kernel
theorem d_C_heldBy_4 : decode prog_2_method_10_code 4 = .ok (.iload_n 3, 1) := by decide +kernel
theorem d_C_heldBy_5 : decode prog_2_method_10_code 5 = .ok (.aload_n 0, 1) := by decide +kernel
theorem d_C_heldBy_6 : decode prog_2_method_10_code 6 = .ok (.getfield 27, 3) := by decide +kernel
theorem d_C_heldBy_9 : decode prog_2_method_10_code 9 = .ok (.if_icmp .ge 82, 3) := by decide +kernel
theorem d_C_heldBy_12 : decode prog_2_method_10_code 12 = .ok (.iload_n 2, 1) := by decide +kernel
theorem d_C_heldBy_13 : decode prog_2_method_10_code 13 = .ok (.istore 4, 2) := by decide +kernel
theorem d_C_heldBy_15 : decode prog_2_method_10_code 15 = .ok (.iconst 0, 1) := by decide +kernel
theorem d_C_heldBy_16 : decode prog_2_method_10_code 16 = .ok (.istore 5, 2) := by decide +kernel
theorem d_C_heldBy_18 : decode prog_2_method_10_code 18 = .ok (.iload 5, 2) := by decide +kernel
theorem d_C_heldBy_20 : decode prog_2_method_10_code 20 = .ok (.aload_n 0, 1) := by decide +kernel
theorem d_C_heldBy_21 : decode prog_2_method_10_code 21 = .ok (.getfield 27, 3) := by decide +kernel
theorem d_C_heldBy_24 : decode prog_2_method_10_code 24 = .ok (.if_icmp .ge 52, 3) := by decide +kernel
theorem d_C_heldBy_27 : decode prog_2_method_10_code 27 = .ok (.aload_n 0, 1) := by decide +kernel
theorem d_C_heldBy_28 : decode prog_2_method_10_code 28 = .ok (.getfield 9, 3) := by decide +kernel
theorem d_C_heldBy_31 : decode prog_2_method_10_code 31 = .ok (.iload 5, 2) := by decide +kernel
theorem d_C_heldBy_33 : decode prog_2_method_10_code 33 = .ok (.iaload, 1) := by decide +kernel
theorem d_C_heldBy_34 : decode prog_2_method_10_code 34 = .ok (.iload_n 1, 1) := by decide +kernel
theorem d_C_heldBy_35 : decode prog_2_method_10_code 35 = .ok (.iand, 1) := by decide +kernel
theorem d_C_heldBy_36 : decode prog_2_method_10_code 36 = .ok (.ifCond .eq 7, 3) := by decide +kernel
theorem d_C_heldBy_39 : decode prog_2_method_10_code 39 = .ok (.iconst 1, 1) := by decide +kernel
theorem d_C_heldBy_40 : decode prog_2_method_10_code 40 = .ok (.goto 4, 3) := by decide +kernel
theorem d_C_heldBy_43 : decode prog_2_method_10_code 43 = .ok (.iconst 0, 1) := by decide +kernel
theorem d_C_heldBy_44 : decode prog_2_method_10_code 44 = .ok (.istore 6, 2) := by decide +kernel
theorem d_C_heldBy_46 : decode prog_2_method_10_code 46 = .ok (.iload 6, 2) := by decide +kernel
theorem d_C_heldBy_48 : decode prog_2_method_10_code 48 = .ok (.ifCond .ne 15, 3) := by decide +kernel
theorem d_C_heldBy_51 : decode prog_2_method_10_code 51 = .ok (.aload_n 0, 1) := by decide +kernel
theorem d_C_heldBy_52 : decode prog_2_method_10_code 52 = .ok (.getfield 15, 3) := by decide +kernel
theorem d_C_heldBy_55 : decode prog_2_method_10_code 55 = .ok (.iload 5, 2) := by decide +kernel
theorem d_C_heldBy_57 : decode prog_2_method_10_code 57 = .ok (.iaload, 1) := by decide +kernel
theorem d_C_heldBy_58 : decode prog_2_method_10_code 58 = .ok (.iload_n 2, 1) := by decide +kernel
theorem d_C_heldBy_59 : decode prog_2_method_10_code 59 = .ok (.iand, 1) := by decide +kernel
theorem d_C_heldBy_60 : decode prog_2_method_10_code 60 = .ok (.ifCond .eq 10, 3) := by decide +kernel
theorem d_C_heldBy_63 : decode prog_2_method_10_code 63 = .ok (.iload_n 2, 1) := by decide +kernel
theorem d_C_heldBy_64 : decode prog_2_method_10_code 64 = .ok (.iload 5, 2) := by decide +kernel
theorem d_C_heldBy_66 : decode prog_2_method_10_code 66 = .ok (.invokestatic 31, 3) := by decide +kernel
theorem d_C_heldBy_69 : decode prog_2_method_10_code 69 = .ok (.istore_n 2, 1) := by decide +kernel
theorem d_C_heldBy_70 : decode prog_2_method_10_code 70 = .ok (.iinc 5 1, 3) := by decide +kernel
theorem d_C_heldBy_73 : decode prog_2_method_10_code 73 = .ok (.goto (-55), 3) := by decide +kernel
theorem d_C_heldBy_76 : decode prog_2_method_10_code 76 = .ok (.iload_n 2, 1) := by decide +kernel
theorem d_C_heldBy_77 : decode prog_2_method_10_code 77 = .ok (.iload 4, 2) := by decide +kernel
theorem d_C_heldBy_79 : decode prog_2_method_10_code 79 = .ok (.if_icmp .ne 6, 3) := by decide +kernel
theorem d_C_heldBy_82 : decode prog_2_method_10_code 82 = .ok (.goto 9, 3) := by decide +kernel
theorem d_C_heldBy_85 : decode prog_2_method_10_code 85 = .ok (.iinc 3 1, 3) := by decide +kernel
theorem d_C_heldBy_88 : decode prog_2_method_10_code 88 = .ok (.goto (-84), 3) := by decide +kernel
theorem d_C_heldBy_91 : decode prog_2_method_10_code 91 = .ok (.iload_n 2, 1) := by decide +kernel
theorem d_C_heldBy_92 : decode prog_2_method_10_code 92 = .ok (.ireturn, 1) := by decide +kernel
theorem d_X_isHeld_0 : decode prog_1_method_27_code 0 = .ok (.aload_n 0, 1) := by decide +kernel
theorem d_X_isHeld_1 : decode prog_1_method_27_code 1 = .ok (.getfield 26, 3) := by decide +kernel
theorem d_X_isHeld_4 : decode prog_1_method_27_code 4 = .ok (.aload_n 0, 1) := by decide +kernel
theorem d_X_isHeld_5 : decode prog_1_method_27_code 5 = .ok (.getfield 19, 3) := by decide +kernel
theorem d_X_isHeld_8 : decode prog_1_method_27_code 8 = .ok (.iload_n 2, 1) := by decide +kernel
theorem d_X_isHeld_9 : decode prog_1_method_27_code 9 = .ok (.invokevirtual 153, 3) := by decide +kernel
theorem d_X_isHeld_12 : decode prog_1_method_27_code 12 = .ok (.invokevirtual 156, 3) := by decide +kernel
theorem d_X_isHeld_15 : decode prog_1_method_27_code 15 = .ok (.iload_n 1, 1) := by decide +kernel
theorem d_X_isHeld_16 : decode prog_1_method_27_code 16 = .ok (.invokestatic 202, 3) := by decide +kernel
theorem d_X_isHeld_19 : decode prog_1_method_27_code 19 = .ok (.ireturn, 1) := by decide +kernel
theorem d_C_ruleOf_0 : decode prog_2_method_4_code 0 = .ok (.aload_n 0, 1) := by decide +kernel
theorem d_C_ruleOf_1 : decode prog_2_method_4_code 1 = .ok (.getfield 18, 3) := by decide +kernel
theorem d_C_ruleOf_4 : decode prog_2_method_4_code 4 = .ok (.iload_n 1, 1) := by decide +kernel
theorem d_C_ruleOf_5 : decode prog_2_method_4_code 5 = .ok (.iaload, 1) := by decide +kernel
theorem d_C_ruleOf_6 : decode prog_2_method_4_code 6 = .ok (.ireturn, 1) := by decide +kernel
theorem d_O_greatestRank_0 : decode prog_3_method_12_code 0 = .ok (.iconst (-1), 1) := by decide +kernel
theorem d_O_greatestRank_1 : decode prog_3_method_12_code 1 = .ok (.istore_n 1, 1) := by decide +kernel
theorem d_O_greatestRank_2 : decode prog_3_method_12_code 2 = .ok (.iconst 0, 1) := by decide +kernel
theorem d_O_greatestRank_3 : decode prog_3_method_12_code 3 = .ok (.istore_n 2, 1) := by decide +kernel
theorem d_O_greatestRank_4 : decode prog_3_method_12_code 4 = .ok (.iload_n 2, 1) := by decide +kernel
theorem d_O_greatestRank_5 : decode prog_3_method_12_code 5 = .ok (.bipush 32, 2) := by decide +kernel
theorem d_O_greatestRank_7 : decode prog_3_method_12_code 7 = .ok (.if_icmp .ge 32, 3) := by decide +kernel
theorem d_O_greatestRank_10 : decode prog_3_method_12_code 10 = .ok (.aload_n 0, 1) := by decide +kernel
theorem d_O_greatestRank_11 : decode prog_3_method_12_code 11 = .ok (.getfield 27, 3) := by decide +kernel
theorem d_O_greatestRank_14 : decode prog_3_method_12_code 14 = .ok (.iload_n 2, 1) := by decide +kernel
theorem d_O_greatestRank_15 : decode prog_3_method_12_code 15 = .ok (.iaload, 1) := by decide +kernel
theorem d_O_greatestRank_16 : decode prog_3_method_12_code 16 = .ok (.istore_n 3, 1) := by decide +kernel
theorem d_O_greatestRank_17 : decode prog_3_method_12_code 17 = .ok (.iload_n 3, 1) := by decide +kernel
theorem d_O_greatestRank_18 : decode prog_3_method_12_code 18 = .ok (.iconst (-1), 1) := by decide +kernel
theorem d_O_greatestRank_19 : decode prog_3_method_12_code 19 = .ok (.if_icmp .eq 14, 3) := by decide +kernel
theorem d_O_greatestRank_22 : decode prog_3_method_12_code 22 = .ok (.iload_n 1, 1) := by decide +kernel
theorem d_O_greatestRank_23 : decode prog_3_method_12_code 23 = .ok (.aload_n 0, 1) := by decide +kernel
theorem d_O_greatestRank_24 : decode prog_3_method_12_code 24 = .ok (.getfield 24, 3) := by decide +kernel
theorem d_O_greatestRank_27 : decode prog_3_method_12_code 27 = .ok (.iload_n 3, 1) := by decide +kernel
theorem d_O_greatestRank_28 : decode prog_3_method_12_code 28 = .ok (.iaload, 1) := by decide +kernel
theorem d_O_greatestRank_29 : decode prog_3_method_12_code 29 = .ok (.invokestatic 61, 3) := by decide +kernel
theorem d_O_greatestRank_32 : decode prog_3_method_12_code 32 = .ok (.istore_n 1, 1) := by decide +kernel
theorem d_O_greatestRank_33 : decode prog_3_method_12_code 33 = .ok (.iinc 2 1, 3) := by decide +kernel
theorem d_O_greatestRank_36 : decode prog_3_method_12_code 36 = .ok (.goto (-32), 3) := by decide +kernel
theorem d_O_greatestRank_39 : decode prog_3_method_12_code 39 = .ok (.iload_n 1, 1) := by decide +kernel
theorem d_O_greatestRank_40 : decode prog_3_method_12_code 40 = .ok (.ireturn, 1) := by decide +kernel
theorem d_O_greatestDayOf_0 : decode prog_3_method_13_code 0 = .ok (.iconst (-1), 1) := by decide +kernel
theorem d_O_greatestDayOf_1 : decode prog_3_method_13_code 1 = .ok (.istore_n 2, 1) := by decide +kernel
theorem d_O_greatestDayOf_2 : decode prog_3_method_13_code 2 = .ok (.iconst 0, 1) := by decide +kernel
theorem d_O_greatestDayOf_3 : decode prog_3_method_13_code 3 = .ok (.istore_n 3, 1) := by decide +kernel
theorem d_O_greatestDayOf_4 : decode prog_3_method_13_code 4 = .ok (.iload_n 3, 1) := by decide +kernel
theorem d_O_greatestDayOf_5 : decode prog_3_method_13_code 5 = .ok (.bipush 32, 2) := by decide +kernel
theorem d_O_greatestDayOf_7 : decode prog_3_method_13_code 7 = .ok (.if_icmp .ge 46, 3) := by decide +kernel
theorem d_O_greatestDayOf_10 : decode prog_3_method_13_code 10 = .ok (.aload_n 0, 1) := by decide +kernel
theorem d_O_greatestDayOf_11 : decode prog_3_method_13_code 11 = .ok (.getfield 27, 3) := by decide +kernel
theorem d_O_greatestDayOf_14 : decode prog_3_method_13_code 14 = .ok (.iload_n 3, 1) := by decide +kernel
theorem d_O_greatestDayOf_15 : decode prog_3_method_13_code 15 = .ok (.iaload, 1) := by decide +kernel
theorem d_O_greatestDayOf_16 : decode prog_3_method_13_code 16 = .ok (.istore 4, 2) := by decide +kernel
theorem d_O_greatestDayOf_18 : decode prog_3_method_13_code 18 = .ok (.iload 4, 2) := by decide +kernel
theorem d_O_greatestDayOf_20 : decode prog_3_method_13_code 20 = .ok (.iconst (-1), 1) := by decide +kernel
theorem d_O_greatestDayOf_21 : decode prog_3_method_13_code 21 = .ok (.if_icmp .eq 26, 3) := by decide +kernel
theorem d_O_greatestDayOf_24 : decode prog_3_method_13_code 24 = .ok (.aload_n 0, 1) := by decide +kernel
theorem d_O_greatestDayOf_25 : decode prog_3_method_13_code 25 = .ok (.getfield 24, 3) := by decide +kernel
theorem d_O_greatestDayOf_28 : decode prog_3_method_13_code 28 = .ok (.iload 4, 2) := by decide +kernel
theorem d_O_greatestDayOf_30 : decode prog_3_method_13_code 30 = .ok (.iaload, 1) := by decide +kernel
theorem d_O_greatestDayOf_31 : decode prog_3_method_13_code 31 = .ok (.iload_n 1, 1) := by decide +kernel
theorem d_O_greatestDayOf_32 : decode prog_3_method_13_code 32 = .ok (.if_icmp .ne 15, 3) := by decide +kernel
theorem d_O_greatestDayOf_35 : decode prog_3_method_13_code 35 = .ok (.iload_n 2, 1) := by decide +kernel
theorem d_O_greatestDayOf_36 : decode prog_3_method_13_code 36 = .ok (.aload_n 0, 1) := by decide +kernel
theorem d_O_greatestDayOf_37 : decode prog_3_method_13_code 37 = .ok (.getfield 18, 3) := by decide +kernel
theorem d_O_greatestDayOf_40 : decode prog_3_method_13_code 40 = .ok (.iload 4, 2) := by decide +kernel
theorem d_O_greatestDayOf_42 : decode prog_3_method_13_code 42 = .ok (.iaload, 1) := by decide +kernel
theorem d_O_greatestDayOf_43 : decode prog_3_method_13_code 43 = .ok (.invokestatic 61, 3) := by decide +kernel
theorem d_O_greatestDayOf_46 : decode prog_3_method_13_code 46 = .ok (.istore_n 2, 1) := by decide +kernel
theorem d_O_greatestDayOf_47 : decode prog_3_method_13_code 47 = .ok (.iinc 3 1, 3) := by decide +kernel
theorem d_O_greatestDayOf_50 : decode prog_3_method_13_code 50 = .ok (.goto (-46), 3) := by decide +kernel
theorem d_O_greatestDayOf_53 : decode prog_3_method_13_code 53 = .ok (.iload_n 2, 1) := by decide +kernel
theorem d_O_greatestDayOf_54 : decode prog_3_method_13_code 54 = .ok (.ireturn, 1) := by decide +kernel
theorem d_O_commonValue_0 : decode prog_3_method_14_code 0 = .ok (.iconst (-1), 1) := by decide +kernel
theorem d_O_commonValue_1 : decode prog_3_method_14_code 1 = .ok (.istore_n 3, 1) := by decide +kernel
theorem d_O_commonValue_2 : decode prog_3_method_14_code 2 = .ok (.iconst 0, 1) := by decide +kernel
theorem d_O_commonValue_3 : decode prog_3_method_14_code 3 = .ok (.istore 4, 2) := by decide +kernel
theorem d_O_commonValue_5 : decode prog_3_method_14_code 5 = .ok (.iload 4, 2) := by decide +kernel
theorem d_O_commonValue_7 : decode prog_3_method_14_code 7 = .ok (.bipush 32, 2) := by decide +kernel
theorem d_O_commonValue_9 : decode prog_3_method_14_code 9 = .ok (.if_icmp .ge 76, 3) := by decide +kernel
theorem d_O_commonValue_12 : decode prog_3_method_14_code 12 = .ok (.aload_n 0, 1) := by decide +kernel
theorem d_O_commonValue_13 : decode prog_3_method_14_code 13 = .ok (.getfield 27, 3) := by decide +kernel
theorem d_O_commonValue_16 : decode prog_3_method_14_code 16 = .ok (.iload 4, 2) := by decide +kernel
theorem d_O_commonValue_18 : decode prog_3_method_14_code 18 = .ok (.iaload, 1) := by decide +kernel
theorem d_O_commonValue_19 : decode prog_3_method_14_code 19 = .ok (.istore 5, 2) := by decide +kernel
theorem d_O_commonValue_21 : decode prog_3_method_14_code 21 = .ok (.iload 5, 2) := by decide +kernel
theorem d_O_commonValue_23 : decode prog_3_method_14_code 23 = .ok (.iconst (-1), 1) := by decide +kernel
theorem d_O_commonValue_24 : decode prog_3_method_14_code 24 = .ok (.if_icmp .eq 55, 3) := by decide +kernel
theorem d_O_commonValue_27 : decode prog_3_method_14_code 27 = .ok (.aload_n 0, 1) := by decide +kernel
theorem d_O_commonValue_28 : decode prog_3_method_14_code 28 = .ok (.getfield 24, 3) := by decide +kernel
theorem d_O_commonValue_31 : decode prog_3_method_14_code 31 = .ok (.iload 5, 2) := by decide +kernel
theorem d_O_commonValue_33 : decode prog_3_method_14_code 33 = .ok (.iaload, 1) := by decide +kernel
theorem d_O_commonValue_34 : decode prog_3_method_14_code 34 = .ok (.iload_n 1, 1) := by decide +kernel
theorem d_O_commonValue_35 : decode prog_3_method_14_code 35 = .ok (.if_icmp .lt 44, 3) := by decide +kernel
theorem d_O_commonValue_38 : decode prog_3_method_14_code 38 = .ok (.aload_n 0, 1) := by decide +kernel
theorem d_O_commonValue_39 : decode prog_3_method_14_code 39 = .ok (.getfield 18, 3) := by decide +kernel
theorem d_O_commonValue_42 : decode prog_3_method_14_code 42 = .ok (.iload 5, 2) := by decide +kernel
theorem d_O_commonValue_44 : decode prog_3_method_14_code 44 = .ok (.iaload, 1) := by decide +kernel
theorem d_O_commonValue_45 : decode prog_3_method_14_code 45 = .ok (.iload_n 2, 1) := by decide +kernel
theorem d_O_commonValue_46 : decode prog_3_method_14_code 46 = .ok (.if_icmp .lt 33, 3) := by decide +kernel
theorem d_O_commonValue_49 : decode prog_3_method_14_code 49 = .ok (.iload_n 3, 1) := by decide +kernel
theorem d_O_commonValue_50 : decode prog_3_method_14_code 50 = .ok (.iconst (-1), 1) := by decide +kernel
theorem d_O_commonValue_51 : decode prog_3_method_14_code 51 = .ok (.if_icmp .ne 14, 3) := by decide +kernel
theorem d_O_commonValue_54 : decode prog_3_method_14_code 54 = .ok (.aload_n 0, 1) := by decide +kernel
theorem d_O_commonValue_55 : decode prog_3_method_14_code 55 = .ok (.getfield 21, 3) := by decide +kernel
theorem d_O_commonValue_58 : decode prog_3_method_14_code 58 = .ok (.iload 5, 2) := by decide +kernel
theorem d_O_commonValue_60 : decode prog_3_method_14_code 60 = .ok (.iaload, 1) := by decide +kernel
theorem d_O_commonValue_61 : decode prog_3_method_14_code 61 = .ok (.istore_n 3, 1) := by decide +kernel
theorem d_O_commonValue_62 : decode prog_3_method_14_code 62 = .ok (.goto 17, 3) := by decide +kernel
theorem d_O_commonValue_65 : decode prog_3_method_14_code 65 = .ok (.iload_n 3, 1) := by decide +kernel
theorem d_O_commonValue_66 : decode prog_3_method_14_code 66 = .ok (.aload_n 0, 1) := by decide +kernel
theorem d_O_commonValue_67 : decode prog_3_method_14_code 67 = .ok (.getfield 21, 3) := by decide +kernel
theorem d_O_commonValue_70 : decode prog_3_method_14_code 70 = .ok (.iload 5, 2) := by decide +kernel
theorem d_O_commonValue_72 : decode prog_3_method_14_code 72 = .ok (.iaload, 1) := by decide +kernel
theorem d_O_commonValue_73 : decode prog_3_method_14_code 73 = .ok (.if_icmp .eq 6, 3) := by decide +kernel
theorem d_O_commonValue_76 : decode prog_3_method_14_code 76 = .ok (.bipush (-2), 2) := by decide +kernel
theorem d_O_commonValue_78 : decode prog_3_method_14_code 78 = .ok (.ireturn, 1) := by decide +kernel
theorem d_O_commonValue_79 : decode prog_3_method_14_code 79 = .ok (.iinc 4 1, 3) := by decide +kernel
theorem d_O_commonValue_82 : decode prog_3_method_14_code 82 = .ok (.goto (-77), 3) := by decide +kernel
theorem d_O_commonValue_85 : decode prog_3_method_14_code 85 = .ok (.iload_n 3, 1) := by decide +kernel
theorem d_O_commonValue_86 : decode prog_3_method_14_code 86 = .ok (.ireturn, 1) := by decide +kernel
theorem d_O_valueOfGreatestRank_0 : decode prog_3_method_11_code 0 = .ok (.aload_n 0, 1) := by decide +kernel
theorem d_O_valueOfGreatestRank_1 : decode prog_3_method_11_code 1 = .ok (.invokevirtual 54, 3) := by decide +kernel
theorem d_O_valueOfGreatestRank_4 : decode prog_3_method_11_code 4 = .ok (.istore_n 1, 1) := by decide +kernel
theorem d_O_valueOfGreatestRank_5 : decode prog_3_method_11_code 5 = .ok (.aload_n 0, 1) := by decide +kernel
theorem d_O_valueOfGreatestRank_6 : decode prog_3_method_11_code 6 = .ok (.iload_n 1, 1) := by decide +kernel
theorem d_O_valueOfGreatestRank_7 : decode prog_3_method_11_code 7 = .ok (.aload_n 0, 1) := by decide +kernel
theorem d_O_valueOfGreatestRank_8 : decode prog_3_method_11_code 8 = .ok (.iload_n 1, 1) := by decide +kernel
theorem d_O_valueOfGreatestRank_9 : decode prog_3_method_11_code 9 = .ok (.invokevirtual 57, 3) := by decide +kernel
theorem d_O_valueOfGreatestRank_12 : decode prog_3_method_11_code 12 = .ok (.invokevirtual 47, 3) := by decide +kernel
theorem d_O_valueOfGreatestRank_15 : decode prog_3_method_11_code 15 = .ok (.ireturn, 1) := by decide +kernel
theorem d_O_mostFrequentValue_0 : decode prog_3_method_10_code 0 = .ok (.aload_n 0, 1) := by decide +kernel
theorem d_O_mostFrequentValue_1 : decode prog_3_method_10_code 1 = .ok (.getfield 30, 3) := by decide +kernel
theorem d_O_mostFrequentValue_4 : decode prog_3_method_10_code 4 = .ok (.iconst 0, 1) := by decide +kernel
theorem d_O_mostFrequentValue_5 : decode prog_3_method_10_code 5 = .ok (.invokestatic 37, 3) := by decide +kernel
theorem d_O_mostFrequentValue_8 : decode prog_3_method_10_code 8 = .ok (.iconst 0, 1) := by decide +kernel
theorem d_O_mostFrequentValue_9 : decode prog_3_method_10_code 9 = .ok (.istore_n 1, 1) := by decide +kernel
theorem d_O_mostFrequentValue_10 : decode prog_3_method_10_code 10 = .ok (.iload_n 1, 1) := by decide +kernel
theorem d_O_mostFrequentValue_11 : decode prog_3_method_10_code 11 = .ok (.bipush 32, 2) := by decide +kernel
theorem d_O_mostFrequentValue_13 : decode prog_3_method_10_code 13 = .ok (.if_icmp .ge 36, 3) := by decide +kernel
theorem d_O_mostFrequentValue_16 : decode prog_3_method_10_code 16 = .ok (.aload_n 0, 1) := by decide +kernel
theorem d_O_mostFrequentValue_17 : decode prog_3_method_10_code 17 = .ok (.getfield 27, 3) := by decide +kernel
theorem d_O_mostFrequentValue_20 : decode prog_3_method_10_code 20 = .ok (.iload_n 1, 1) := by decide +kernel
theorem d_O_mostFrequentValue_21 : decode prog_3_method_10_code 21 = .ok (.iaload, 1) := by decide +kernel
theorem d_O_mostFrequentValue_22 : decode prog_3_method_10_code 22 = .ok (.istore_n 2, 1) := by decide +kernel
theorem d_O_mostFrequentValue_23 : decode prog_3_method_10_code 23 = .ok (.iload_n 2, 1) := by decide +kernel
theorem d_O_mostFrequentValue_24 : decode prog_3_method_10_code 24 = .ok (.iconst (-1), 1) := by decide +kernel
theorem d_O_mostFrequentValue_25 : decode prog_3_method_10_code 25 = .ok (.if_icmp .eq 18, 3) := by decide +kernel
theorem d_O_mostFrequentValue_28 : decode prog_3_method_10_code 28 = .ok (.aload_n 0, 1) := by decide +kernel
theorem d_O_mostFrequentValue_29 : decode prog_3_method_10_code 29 = .ok (.getfield 30, 3) := by decide +kernel
theorem d_O_mostFrequentValue_32 : decode prog_3_method_10_code 32 = .ok (.aload_n 0, 1) := by decide +kernel
theorem d_O_mostFrequentValue_33 : decode prog_3_method_10_code 33 = .ok (.getfield 21, 3) := by decide +kernel
theorem d_O_mostFrequentValue_36 : decode prog_3_method_10_code 36 = .ok (.iload_n 2, 1) := by decide +kernel
theorem d_O_mostFrequentValue_37 : decode prog_3_method_10_code 37 = .ok (.iaload, 1) := by decide +kernel
theorem d_O_mostFrequentValue_38 : decode prog_3_method_10_code 38 = .ok (.dup2, 1) := by decide +kernel
theorem d_O_mostFrequentValue_39 : decode prog_3_method_10_code 39 = .ok (.iaload, 1) := by decide +kernel
theorem d_O_mostFrequentValue_40 : decode prog_3_method_10_code 40 = .ok (.iconst 1, 1) := by decide +kernel
theorem d_O_mostFrequentValue_41 : decode prog_3_method_10_code 41 = .ok (.iadd, 1) := by decide +kernel
theorem d_O_mostFrequentValue_42 : decode prog_3_method_10_code 42 = .ok (.iastore, 1) := by decide +kernel
theorem d_O_mostFrequentValue_43 : decode prog_3_method_10_code 43 = .ok (.iinc 1 1, 3) := by decide +kernel
theorem d_O_mostFrequentValue_46 : decode prog_3_method_10_code 46 = .ok (.goto (-36), 3) := by decide +kernel
theorem d_O_mostFrequentValue_49 : decode prog_3_method_10_code 49 = .ok (.iconst 0, 1) := by decide +kernel
theorem d_O_mostFrequentValue_50 : decode prog_3_method_10_code 50 = .ok (.istore_n 1, 1) := by decide +kernel
theorem d_O_mostFrequentValue_51 : decode prog_3_method_10_code 51 = .ok (.iconst (-1), 1) := by decide +kernel
theorem d_O_mostFrequentValue_52 : decode prog_3_method_10_code 52 = .ok (.istore_n 2, 1) := by decide +kernel
theorem d_O_mostFrequentValue_53 : decode prog_3_method_10_code 53 = .ok (.iconst 0, 1) := by decide +kernel
theorem d_O_mostFrequentValue_54 : decode prog_3_method_10_code 54 = .ok (.istore_n 3, 1) := by decide +kernel
theorem d_O_mostFrequentValue_55 : decode prog_3_method_10_code 55 = .ok (.iload_n 3, 1) := by decide +kernel
theorem d_O_mostFrequentValue_56 : decode prog_3_method_10_code 56 = .ok (.bipush 100, 2) := by decide +kernel
theorem d_O_mostFrequentValue_58 : decode prog_3_method_10_code 58 = .ok (.if_icmp .ge 48, 3) := by decide +kernel
theorem d_O_mostFrequentValue_61 : decode prog_3_method_10_code 61 = .ok (.aload_n 0, 1) := by decide +kernel
theorem d_O_mostFrequentValue_62 : decode prog_3_method_10_code 62 = .ok (.getfield 30, 3) := by decide +kernel
theorem d_O_mostFrequentValue_65 : decode prog_3_method_10_code 65 = .ok (.iload_n 3, 1) := by decide +kernel
theorem d_O_mostFrequentValue_66 : decode prog_3_method_10_code 66 = .ok (.iaload, 1) := by decide +kernel
theorem d_O_mostFrequentValue_67 : decode prog_3_method_10_code 67 = .ok (.iload_n 1, 1) := by decide +kernel
theorem d_O_mostFrequentValue_68 : decode prog_3_method_10_code 68 = .ok (.if_icmp .le 15, 3) := by decide +kernel
theorem d_O_mostFrequentValue_71 : decode prog_3_method_10_code 71 = .ok (.aload_n 0, 1) := by decide +kernel
theorem d_O_mostFrequentValue_72 : decode prog_3_method_10_code 72 = .ok (.getfield 30, 3) := by decide +kernel
theorem d_O_mostFrequentValue_75 : decode prog_3_method_10_code 75 = .ok (.iload_n 3, 1) := by decide +kernel
theorem d_O_mostFrequentValue_76 : decode prog_3_method_10_code 76 = .ok (.iaload, 1) := by decide +kernel
theorem d_O_mostFrequentValue_77 : decode prog_3_method_10_code 77 = .ok (.istore_n 1, 1) := by decide +kernel
theorem d_O_mostFrequentValue_78 : decode prog_3_method_10_code 78 = .ok (.iload_n 3, 1) := by decide +kernel
theorem d_O_mostFrequentValue_79 : decode prog_3_method_10_code 79 = .ok (.istore_n 2, 1) := by decide +kernel
theorem d_O_mostFrequentValue_80 : decode prog_3_method_10_code 80 = .ok (.goto 20, 3) := by decide +kernel
theorem d_O_mostFrequentValue_83 : decode prog_3_method_10_code 83 = .ok (.aload_n 0, 1) := by decide +kernel
theorem d_O_mostFrequentValue_84 : decode prog_3_method_10_code 84 = .ok (.getfield 30, 3) := by decide +kernel
theorem d_O_mostFrequentValue_87 : decode prog_3_method_10_code 87 = .ok (.iload_n 3, 1) := by decide +kernel
theorem d_O_mostFrequentValue_88 : decode prog_3_method_10_code 88 = .ok (.iaload, 1) := by decide +kernel
theorem d_O_mostFrequentValue_89 : decode prog_3_method_10_code 89 = .ok (.iload_n 1, 1) := by decide +kernel
theorem d_O_mostFrequentValue_90 : decode prog_3_method_10_code 90 = .ok (.if_icmp .ne 10, 3) := by decide +kernel
theorem d_O_mostFrequentValue_93 : decode prog_3_method_10_code 93 = .ok (.iload_n 1, 1) := by decide +kernel
theorem d_O_mostFrequentValue_94 : decode prog_3_method_10_code 94 = .ok (.ifCond .le 6, 3) := by decide +kernel
theorem d_O_mostFrequentValue_97 : decode prog_3_method_10_code 97 = .ok (.bipush (-2), 2) := by decide +kernel
theorem d_O_mostFrequentValue_99 : decode prog_3_method_10_code 99 = .ok (.istore_n 2, 1) := by decide +kernel
theorem d_O_mostFrequentValue_100 : decode prog_3_method_10_code 100 = .ok (.iinc 3 1, 3) := by decide +kernel
theorem d_O_mostFrequentValue_103 : decode prog_3_method_10_code 103 = .ok (.goto (-48), 3) := by decide +kernel
theorem d_O_mostFrequentValue_106 : decode prog_3_method_10_code 106 = .ok (.iload_n 2, 1) := by decide +kernel
theorem d_O_mostFrequentValue_107 : decode prog_3_method_10_code 107 = .ok (.ireturn, 1) := by decide +kernel
theorem d_O_valueBy_0 : decode prog_3_method_8_code 0 = .ok (.iload_n 1, 1) := by decide +kernel
theorem d_O_valueBy_1 : decode prog_3_method_8_code 1 = .ok (.lookupswitch 39 #[(1, 27), (2, 32)], 27) := by decide +kernel
theorem d_O_valueBy_28 : decode prog_3_method_8_code 28 = .ok (.aload_n 0, 1) := by decide +kernel
theorem d_O_valueBy_29 : decode prog_3_method_8_code 29 = .ok (.invokevirtual 43, 3) := by decide +kernel
theorem d_O_valueBy_32 : decode prog_3_method_8_code 32 = .ok (.ireturn, 1) := by decide +kernel
theorem d_O_valueBy_33 : decode prog_3_method_8_code 33 = .ok (.aload_n 0, 1) := by decide +kernel
theorem d_O_valueBy_34 : decode prog_3_method_8_code 34 = .ok (.iconst (-1), 1) := by decide +kernel
theorem d_O_valueBy_35 : decode prog_3_method_8_code 35 = .ok (.iconst (-1), 1) := by decide +kernel
theorem d_O_valueBy_36 : decode prog_3_method_8_code 36 = .ok (.invokevirtual 47, 3) := by decide +kernel
theorem d_O_valueBy_39 : decode prog_3_method_8_code 39 = .ok (.ireturn, 1) := by decide +kernel
theorem d_O_valueBy_40 : decode prog_3_method_8_code 40 = .ok (.aload_n 0, 1) := by decide +kernel
theorem d_O_valueBy_41 : decode prog_3_method_8_code 41 = .ok (.invokevirtual 51, 3) := by decide +kernel
theorem d_O_valueBy_44 : decode prog_3_method_8_code 44 = .ok (.ireturn, 1) := by decide +kernel
theorem d_X_agreedValue_0 : decode prog_1_method_28_code 0 = .ok (.aload_n 0, 1) := by decide +kernel
theorem d_X_agreedValue_1 : decode prog_1_method_28_code 1 = .ok (.getfield 33, 3) := by decide +kernel
theorem d_X_agreedValue_4 : decode prog_1_method_28_code 4 = .ok (.iload_n 1, 1) := by decide +kernel
theorem d_X_agreedValue_5 : decode prog_1_method_28_code 5 = .ok (.iload_n 2, 1) := by decide +kernel
theorem d_X_agreedValue_6 : decode prog_1_method_28_code 6 = .ok (.invokevirtual 205, 3) := by decide +kernel
theorem d_X_agreedValue_9 : decode prog_1_method_28_code 9 = .ok (.aload_n 0, 1) := by decide +kernel
theorem d_X_agreedValue_10 : decode prog_1_method_28_code 10 = .ok (.iload_n 1, 1) := by decide +kernel
theorem d_X_agreedValue_11 : decode prog_1_method_28_code 11 = .ok (.iload_n 2, 1) := by decide +kernel
theorem d_X_agreedValue_12 : decode prog_1_method_28_code 12 = .ok (.invokevirtual 150, 3) := by decide +kernel
theorem d_X_agreedValue_15 : decode prog_1_method_28_code 15 = .ok (.ifCond .eq 21, 3) := by decide +kernel
theorem d_X_agreedValue_18 : decode prog_1_method_28_code 18 = .ok (.aload_n 0, 1) := by decide +kernel
theorem d_X_agreedValue_19 : decode prog_1_method_28_code 19 = .ok (.getfield 33, 3) := by decide +kernel
theorem d_X_agreedValue_22 : decode prog_1_method_28_code 22 = .ok (.aload_n 0, 1) := by decide +kernel
theorem d_X_agreedValue_23 : decode prog_1_method_28_code 23 = .ok (.getfield 26, 3) := by decide +kernel
theorem d_X_agreedValue_26 : decode prog_1_method_28_code 26 = .ok (.iload_n 1, 1) := by decide +kernel
theorem d_X_agreedValue_27 : decode prog_1_method_28_code 27 = .ok (.invokevirtual 209, 3) := by decide +kernel
theorem d_X_agreedValue_30 : decode prog_1_method_28_code 30 = .ok (.invokevirtual 212, 3) := by decide +kernel
theorem d_X_agreedValue_33 : decode prog_1_method_28_code 33 = .ok (.goto 4, 3) := by decide +kernel
theorem d_X_agreedValue_36 : decode prog_1_method_28_code 36 = .ok (.iconst (-1), 1) := by decide +kernel
theorem d_X_agreedValue_37 : decode prog_1_method_28_code 37 = .ok (.ireturn, 1) := by decide +kernel
theorem d_X_agreed_0 : decode prog_1_method_13_code 0 = .ok (.aload_n 0, 1) := by decide +kernel
theorem d_X_agreed_1 : decode prog_1_method_13_code 1 = .ok (.iload_n 1, 1) := by decide +kernel
theorem d_X_agreed_2 : decode prog_1_method_13_code 2 = .ok (.invokevirtual 87, 3) := by decide +kernel
theorem d_X_agreed_5 : decode prog_1_method_13_code 5 = .ok (.iload_n 2, 1) := by decide +kernel
theorem d_X_agreed_6 : decode prog_1_method_13_code 6 = .ok (.invokestatic 66, 3) := by decide +kernel
theorem d_X_agreed_9 : decode prog_1_method_13_code 9 = .ok (.aload_n 0, 1) := by decide +kernel
theorem d_X_agreed_10 : decode prog_1_method_13_code 10 = .ok (.iload_n 1, 1) := by decide +kernel
theorem d_X_agreed_11 : decode prog_1_method_13_code 11 = .ok (.iload_n 2, 1) := by decide +kernel
theorem d_X_agreed_12 : decode prog_1_method_13_code 12 = .ok (.invokevirtual 144, 3) := by decide +kernel
theorem d_X_agreed_15 : decode prog_1_method_13_code 15 = .ok (.ireturn, 1) := by decide +kernel
theorem d_O_dissenter_0 : decode prog_3_method_9_code 0 = .ok (.iload_n 2, 1) := by decide +kernel
theorem d_O_dissenter_1 : decode prog_3_method_9_code 1 = .ok (.istore_n 3, 1) := by decide +kernel
theorem d_O_dissenter_2 : decode prog_3_method_9_code 2 = .ok (.iconst 0, 1) := by decide +kernel
theorem d_O_dissenter_3 : decode prog_3_method_9_code 3 = .ok (.istore 4, 2) := by decide +kernel
theorem d_O_dissenter_5 : decode prog_3_method_9_code 5 = .ok (.iload 4, 2) := by decide +kernel
theorem d_O_dissenter_7 : decode prog_3_method_9_code 7 = .ok (.bipush 32, 2) := by decide +kernel
theorem d_O_dissenter_9 : decode prog_3_method_9_code 9 = .ok (.if_icmp .ge 45, 3) := by decide +kernel
theorem d_O_dissenter_12 : decode prog_3_method_9_code 12 = .ok (.aload_n 0, 1) := by decide +kernel
theorem d_O_dissenter_13 : decode prog_3_method_9_code 13 = .ok (.getfield 27, 3) := by decide +kernel
theorem d_O_dissenter_16 : decode prog_3_method_9_code 16 = .ok (.iload 4, 2) := by decide +kernel
theorem d_O_dissenter_18 : decode prog_3_method_9_code 18 = .ok (.iaload, 1) := by decide +kernel
theorem d_O_dissenter_19 : decode prog_3_method_9_code 19 = .ok (.istore 5, 2) := by decide +kernel
theorem d_O_dissenter_21 : decode prog_3_method_9_code 21 = .ok (.iload 5, 2) := by decide +kernel
theorem d_O_dissenter_23 : decode prog_3_method_9_code 23 = .ok (.iconst (-1), 1) := by decide +kernel
theorem d_O_dissenter_24 : decode prog_3_method_9_code 24 = .ok (.if_icmp .eq 24, 3) := by decide +kernel
theorem d_O_dissenter_27 : decode prog_3_method_9_code 27 = .ok (.aload_n 0, 1) := by decide +kernel
theorem d_O_dissenter_28 : decode prog_3_method_9_code 28 = .ok (.getfield 21, 3) := by decide +kernel
theorem d_O_dissenter_31 : decode prog_3_method_9_code 31 = .ok (.iload 5, 2) := by decide +kernel
theorem d_O_dissenter_33 : decode prog_3_method_9_code 33 = .ok (.iaload, 1) := by decide +kernel
theorem d_O_dissenter_34 : decode prog_3_method_9_code 34 = .ok (.iload_n 1, 1) := by decide +kernel
theorem d_O_dissenter_35 : decode prog_3_method_9_code 35 = .ok (.if_icmp .eq 13, 3) := by decide +kernel
theorem d_O_dissenter_38 : decode prog_3_method_9_code 38 = .ok (.iload_n 3, 1) := by decide +kernel
theorem d_O_dissenter_39 : decode prog_3_method_9_code 39 = .ok (.ifCond .ne 6, 3) := by decide +kernel
theorem d_O_dissenter_42 : decode prog_3_method_9_code 42 = .ok (.iload 4, 2) := by decide +kernel
theorem d_O_dissenter_44 : decode prog_3_method_9_code 44 = .ok (.ireturn, 1) := by decide +kernel
theorem d_O_dissenter_45 : decode prog_3_method_9_code 45 = .ok (.iinc 3 (-1), 3) := by decide +kernel
theorem d_O_dissenter_48 : decode prog_3_method_9_code 48 = .ok (.iinc 4 1, 3) := by decide +kernel
theorem d_O_dissenter_51 : decode prog_3_method_9_code 51 = .ok (.goto (-46), 3) := by decide +kernel
theorem d_O_dissenter_54 : decode prog_3_method_9_code 54 = .ok (.iconst (-1), 1) := by decide +kernel
theorem d_O_dissenter_55 : decode prog_3_method_9_code 55 = .ok (.ireturn, 1) := by decide +kernel
theorem d_X_dissent_0 : decode prog_1_method_14_code 0 = .ok (.aload_n 0, 1) := by decide +kernel
theorem d_X_dissent_1 : decode prog_1_method_14_code 1 = .ok (.iload_n 1, 1) := by decide +kernel
theorem d_X_dissent_2 : decode prog_1_method_14_code 2 = .ok (.invokevirtual 87, 3) := by decide +kernel
theorem d_X_dissent_5 : decode prog_1_method_14_code 5 = .ok (.iload_n 3, 1) := by decide +kernel
theorem d_X_dissent_6 : decode prog_1_method_14_code 6 = .ok (.invokestatic 107, 3) := by decide +kernel
theorem d_X_dissent_9 : decode prog_1_method_14_code 9 = .ok (.iload_n 2, 1) := by decide +kernel
theorem d_X_dissent_10 : decode prog_1_method_14_code 10 = .ok (.invokestatic 66, 3) := by decide +kernel
theorem d_X_dissent_13 : decode prog_1_method_14_code 13 = .ok (.aload_n 0, 1) := by decide +kernel
theorem d_X_dissent_14 : decode prog_1_method_14_code 14 = .ok (.getfield 33, 3) := by decide +kernel
theorem d_X_dissent_17 : decode prog_1_method_14_code 17 = .ok (.aload_n 0, 1) := by decide +kernel
theorem d_X_dissent_18 : decode prog_1_method_14_code 18 = .ok (.iload_n 1, 1) := by decide +kernel
theorem d_X_dissent_19 : decode prog_1_method_14_code 19 = .ok (.iload_n 2, 1) := by decide +kernel
theorem d_X_dissent_20 : decode prog_1_method_14_code 20 = .ok (.invokevirtual 144, 3) := by decide +kernel
theorem d_X_dissent_23 : decode prog_1_method_14_code 23 = .ok (.iload_n 3, 1) := by decide +kernel
theorem d_X_dissent_24 : decode prog_1_method_14_code 24 = .ok (.invokevirtual 147, 3) := by decide +kernel
theorem d_X_dissent_27 : decode prog_1_method_14_code 27 = .ok (.ireturn, 1) := by decide +kernel
theorem d_X_held_0 : decode prog_1_method_15_code 0 = .ok (.aload_n 0, 1) := by decide +kernel
theorem d_X_held_1 : decode prog_1_method_15_code 1 = .ok (.iload_n 1, 1) := by decide +kernel
theorem d_X_held_2 : decode prog_1_method_15_code 2 = .ok (.invokevirtual 87, 3) := by decide +kernel
theorem d_X_held_5 : decode prog_1_method_15_code 5 = .ok (.iload_n 2, 1) := by decide +kernel
theorem d_X_held_6 : decode prog_1_method_15_code 6 = .ok (.invokestatic 66, 3) := by decide +kernel
theorem d_X_held_9 : decode prog_1_method_15_code 9 = .ok (.aload_n 0, 1) := by decide +kernel
theorem d_X_held_10 : decode prog_1_method_15_code 10 = .ok (.iload_n 1, 1) := by decide +kernel
theorem d_X_held_11 : decode prog_1_method_15_code 11 = .ok (.iload_n 2, 1) := by decide +kernel
theorem d_X_held_12 : decode prog_1_method_15_code 12 = .ok (.invokevirtual 150, 3) := by decide +kernel
theorem d_X_held_15 : decode prog_1_method_15_code 15 = .ok (.ireturn, 1) := by decide +kernel
theorem d_X_memberAt_0 : decode prog_1_method_39_code 0 = .ok (.iload_n 1, 1) := by decide +kernel
theorem d_X_memberAt_1 : decode prog_1_method_39_code 1 = .ok (.istore_n 2, 1) := by decide +kernel
theorem d_X_memberAt_2 : decode prog_1_method_39_code 2 = .ok (.iconst 0, 1) := by decide +kernel
theorem d_X_memberAt_3 : decode prog_1_method_39_code 3 = .ok (.istore_n 3, 1) := by decide +kernel
theorem d_X_memberAt_4 : decode prog_1_method_39_code 4 = .ok (.iload_n 3, 1) := by decide +kernel
theorem d_X_memberAt_5 : decode prog_1_method_39_code 5 = .ok (.bipush 24, 2) := by decide +kernel
theorem d_X_memberAt_7 : decode prog_1_method_39_code 7 = .ok (.if_icmp .ge 26, 3) := by decide +kernel
theorem d_X_memberAt_10 : decode prog_1_method_39_code 10 = .ok (.iload_n 0, 1) := by decide +kernel
theorem d_X_memberAt_11 : decode prog_1_method_39_code 11 = .ok (.iload_n 3, 1) := by decide +kernel
theorem d_X_memberAt_12 : decode prog_1_method_39_code 12 = .ok (.invokestatic 202, 3) := by decide +kernel
theorem d_X_memberAt_15 : decode prog_1_method_39_code 15 = .ok (.ifCond .eq 12, 3) := by decide +kernel
theorem d_X_memberAt_18 : decode prog_1_method_39_code 18 = .ok (.iload_n 2, 1) := by decide +kernel
theorem d_X_memberAt_19 : decode prog_1_method_39_code 19 = .ok (.ifCond .ne 5, 3) := by decide +kernel
theorem d_X_memberAt_22 : decode prog_1_method_39_code 22 = .ok (.iload_n 3, 1) := by decide +kernel
theorem d_X_memberAt_23 : decode prog_1_method_39_code 23 = .ok (.ireturn, 1) := by decide +kernel
theorem d_X_memberAt_24 : decode prog_1_method_39_code 24 = .ok (.iinc 2 (-1), 3) := by decide +kernel
theorem d_X_memberAt_27 : decode prog_1_method_39_code 27 = .ok (.iinc 3 1, 3) := by decide +kernel
theorem d_X_memberAt_30 : decode prog_1_method_39_code 30 = .ok (.goto (-26), 3) := by decide +kernel
theorem d_X_memberAt_33 : decode prog_1_method_39_code 33 = .ok (.iconst (-1), 1) := by decide +kernel
theorem d_X_memberAt_34 : decode prog_1_method_39_code 34 = .ok (.ireturn, 1) := by decide +kernel
theorem d_X_opened_0 : decode prog_1_method_16_code 0 = .ok (.aload_n 0, 1) := by decide +kernel
theorem d_X_opened_1 : decode prog_1_method_16_code 1 = .ok (.iload_n 1, 1) := by decide +kernel
theorem d_X_opened_2 : decode prog_1_method_16_code 2 = .ok (.invokevirtual 90, 3) := by decide +kernel
theorem d_X_opened_5 : decode prog_1_method_16_code 5 = .ok (.iload_n 3, 1) := by decide +kernel
theorem d_X_opened_6 : decode prog_1_method_16_code 6 = .ok (.invokestatic 107, 3) := by decide +kernel
theorem d_X_opened_9 : decode prog_1_method_16_code 9 = .ok (.iload_n 2, 1) := by decide +kernel
theorem d_X_opened_10 : decode prog_1_method_16_code 10 = .ok (.invokestatic 66, 3) := by decide +kernel
theorem d_X_opened_13 : decode prog_1_method_16_code 13 = .ok (.aload_n 0, 1) := by decide +kernel
theorem d_X_opened_14 : decode prog_1_method_16_code 14 = .ok (.getfield 19, 3) := by decide +kernel
theorem d_X_opened_17 : decode prog_1_method_16_code 17 = .ok (.iload_n 2, 1) := by decide +kernel
theorem d_X_opened_18 : decode prog_1_method_16_code 18 = .ok (.invokevirtual 153, 3) := by decide +kernel
theorem d_X_opened_21 : decode prog_1_method_16_code 21 = .ok (.istore 4, 2) := by decide +kernel
theorem d_X_opened_23 : decode prog_1_method_16_code 23 = .ok (.aload_n 0, 1) := by decide +kernel
theorem d_X_opened_24 : decode prog_1_method_16_code 24 = .ok (.getfield 26, 3) := by decide +kernel
theorem d_X_opened_27 : decode prog_1_method_16_code 27 = .ok (.iload 4, 2) := by decide +kernel
theorem d_X_opened_29 : decode prog_1_method_16_code 29 = .ok (.invokevirtual 156, 3) := by decide +kernel
theorem d_X_opened_32 : decode prog_1_method_16_code 32 = .ok (.istore 5, 2) := by decide +kernel
theorem d_X_opened_34 : decode prog_1_method_16_code 34 = .ok (.aload_n 0, 1) := by decide +kernel
theorem d_X_opened_35 : decode prog_1_method_16_code 35 = .ok (.getfield 26, 3) := by decide +kernel
theorem d_X_opened_38 : decode prog_1_method_16_code 38 = .ok (.iload 4, 2) := by decide +kernel
theorem d_X_opened_40 : decode prog_1_method_16_code 40 = .ok (.iload_n 1, 1) := by decide +kernel
theorem d_X_opened_41 : decode prog_1_method_16_code 41 = .ok (.invokestatic 159, 3) := by decide +kernel
theorem d_X_opened_44 : decode prog_1_method_16_code 44 = .ok (.invokevirtual 156, 3) := by decide +kernel
theorem d_X_opened_47 : decode prog_1_method_16_code 47 = .ok (.istore 6, 2) := by decide +kernel
theorem d_X_opened_49 : decode prog_1_method_16_code 49 = .ok (.iload 5, 2) := by decide +kernel
theorem d_X_opened_51 : decode prog_1_method_16_code 51 = .ok (.iload 6, 2) := by decide +kernel
theorem d_X_opened_53 : decode prog_1_method_16_code 53 = .ok (.iconst (-1), 1) := by decide +kernel
theorem d_X_opened_54 : decode prog_1_method_16_code 54 = .ok (.ixor, 1) := by decide +kernel
theorem d_X_opened_55 : decode prog_1_method_16_code 55 = .ok (.iand, 1) := by decide +kernel
theorem d_X_opened_56 : decode prog_1_method_16_code 56 = .ok (.iload_n 3, 1) := by decide +kernel
theorem d_X_opened_57 : decode prog_1_method_16_code 57 = .ok (.invokestatic 162, 3) := by decide +kernel
theorem d_X_opened_60 : decode prog_1_method_16_code 60 = .ok (.ireturn, 1) := by decide +kernel
theorem d_T_signAt_0 : decode prog_5_method_3_code 0 = .ok (.aload_n 0, 1) := by decide +kernel
theorem d_T_signAt_1 : decode prog_5_method_3_code 1 = .ok (.getfield 9, 3) := by decide +kernel
theorem d_T_signAt_4 : decode prog_5_method_3_code 4 = .ok (.iload_n 1, 1) := by decide +kernel
theorem d_T_signAt_5 : decode prog_5_method_3_code 5 = .ok (.bipush 60, 2) := by decide +kernel
theorem d_T_signAt_7 : decode prog_5_method_3_code 7 = .ok (.imul, 1) := by decide +kernel
theorem d_T_signAt_8 : decode prog_5_method_3_code 8 = .ok (.iload_n 2, 1) := by decide +kernel
theorem d_T_signAt_9 : decode prog_5_method_3_code 9 = .ok (.iadd, 1) := by decide +kernel
theorem d_T_signAt_10 : decode prog_5_method_3_code 10 = .ok (.iaload, 1) := by decide +kernel
theorem d_T_signAt_11 : decode prog_5_method_3_code 11 = .ok (.ireturn, 1) := by decide +kernel
theorem d_T_firstMismatch_0 : decode prog_5_method_7_code 0 = .ok (.iconst 0, 1) := by decide +kernel
theorem d_T_firstMismatch_1 : decode prog_5_method_7_code 1 = .ok (.istore 4, 2) := by decide +kernel
theorem d_T_firstMismatch_3 : decode prog_5_method_7_code 3 = .ok (.iload 4, 2) := by decide +kernel
theorem d_T_firstMismatch_5 : decode prog_5_method_7_code 5 = .ok (.aload_n 0, 1) := by decide +kernel
theorem d_T_firstMismatch_6 : decode prog_5_method_7_code 6 = .ok (.getfield 15, 3) := by decide +kernel
theorem d_T_firstMismatch_9 : decode prog_5_method_7_code 9 = .ok (.iload_n 1, 1) := by decide +kernel
theorem d_T_firstMismatch_10 : decode prog_5_method_7_code 10 = .ok (.iaload, 1) := by decide +kernel
theorem d_T_firstMismatch_11 : decode prog_5_method_7_code 11 = .ok (.if_icmp .ge 58, 3) := by decide +kernel
theorem d_T_firstMismatch_14 : decode prog_5_method_7_code 14 = .ok (.iload_n 3, 1) := by decide +kernel
theorem d_T_firstMismatch_15 : decode prog_5_method_7_code 15 = .ok (.iload 4, 2) := by decide +kernel
theorem d_T_firstMismatch_17 : decode prog_5_method_7_code 17 = .ok (.iadd, 1) := by decide +kernel
theorem d_T_firstMismatch_18 : decode prog_5_method_7_code 18 = .ok (.aload_n 0, 1) := by decide +kernel
theorem d_T_firstMismatch_19 : decode prog_5_method_7_code 19 = .ok (.getfield 15, 3) := by decide +kernel
theorem d_T_firstMismatch_22 : decode prog_5_method_7_code 22 = .ok (.iload_n 2, 1) := by decide +kernel
theorem d_T_firstMismatch_23 : decode prog_5_method_7_code 23 = .ok (.iaload, 1) := by decide +kernel
theorem d_T_firstMismatch_24 : decode prog_5_method_7_code 24 = .ok (.if_icmp .lt 7, 3) := by decide +kernel
theorem d_T_firstMismatch_27 : decode prog_5_method_7_code 27 = .ok (.iconst 1, 1) := by decide +kernel
theorem d_T_firstMismatch_28 : decode prog_5_method_7_code 28 = .ok (.goto 4, 3) := by decide +kernel
theorem d_T_firstMismatch_31 : decode prog_5_method_7_code 31 = .ok (.iconst 0, 1) := by decide +kernel
theorem d_T_firstMismatch_32 : decode prog_5_method_7_code 32 = .ok (.istore 5, 2) := by decide +kernel
theorem d_T_firstMismatch_34 : decode prog_5_method_7_code 34 = .ok (.iload 5, 2) := by decide +kernel
theorem d_T_firstMismatch_36 : decode prog_5_method_7_code 36 = .ok (.ifCond .ne 22, 3) := by decide +kernel
theorem d_T_firstMismatch_39 : decode prog_5_method_7_code 39 = .ok (.aload_n 0, 1) := by decide +kernel
theorem d_T_firstMismatch_40 : decode prog_5_method_7_code 40 = .ok (.iload_n 2, 1) := by decide +kernel
theorem d_T_firstMismatch_41 : decode prog_5_method_7_code 41 = .ok (.iload_n 3, 1) := by decide +kernel
theorem d_T_firstMismatch_42 : decode prog_5_method_7_code 42 = .ok (.iload 4, 2) := by decide +kernel
theorem d_T_firstMismatch_44 : decode prog_5_method_7_code 44 = .ok (.iadd, 1) := by decide +kernel
theorem d_T_firstMismatch_45 : decode prog_5_method_7_code 45 = .ok (.invokevirtual 24, 3) := by decide +kernel
theorem d_T_firstMismatch_48 : decode prog_5_method_7_code 48 = .ok (.aload_n 0, 1) := by decide +kernel
theorem d_T_firstMismatch_49 : decode prog_5_method_7_code 49 = .ok (.iload_n 1, 1) := by decide +kernel
theorem d_T_firstMismatch_50 : decode prog_5_method_7_code 50 = .ok (.iload 4, 2) := by decide +kernel
theorem d_T_firstMismatch_52 : decode prog_5_method_7_code 52 = .ok (.invokevirtual 24, 3) := by decide +kernel
theorem d_T_firstMismatch_55 : decode prog_5_method_7_code 55 = .ok (.if_icmp .eq 8, 3) := by decide +kernel
theorem d_T_firstMismatch_58 : decode prog_5_method_7_code 58 = .ok (.iload 4, 2) := by decide +kernel
theorem d_T_firstMismatch_60 : decode prog_5_method_7_code 60 = .ok (.iconst 1, 1) := by decide +kernel
theorem d_T_firstMismatch_61 : decode prog_5_method_7_code 61 = .ok (.iadd, 1) := by decide +kernel
theorem d_T_firstMismatch_62 : decode prog_5_method_7_code 62 = .ok (.ireturn, 1) := by decide +kernel
theorem d_T_firstMismatch_63 : decode prog_5_method_7_code 63 = .ok (.iinc 4 1, 3) := by decide +kernel
theorem d_T_firstMismatch_66 : decode prog_5_method_7_code 66 = .ok (.goto (-63), 3) := by decide +kernel
theorem d_T_firstMismatch_69 : decode prog_5_method_7_code 69 = .ok (.iconst 0, 1) := by decide +kernel
theorem d_T_firstMismatch_70 : decode prog_5_method_7_code 70 = .ok (.ireturn, 1) := by decide +kernel
theorem d_X_quote_0 : decode prog_1_method_17_code 0 = .ok (.aload_n 0, 1) := by decide +kernel
theorem d_X_quote_1 : decode prog_1_method_17_code 1 = .ok (.iload_n 1, 1) := by decide +kernel
theorem d_X_quote_2 : decode prog_1_method_17_code 2 = .ok (.invokevirtual 90, 3) := by decide +kernel
theorem d_X_quote_5 : decode prog_1_method_17_code 5 = .ok (.iload_n 2, 1) := by decide +kernel
theorem d_X_quote_6 : decode prog_1_method_17_code 6 = .ok (.iconst 0, 1) := by decide +kernel
theorem d_X_quote_7 : decode prog_1_method_17_code 7 = .ok (.aload_n 0, 1) := by decide +kernel
theorem d_X_quote_8 : decode prog_1_method_17_code 8 = .ok (.getfield 12, 3) := by decide +kernel
theorem d_X_quote_11 : decode prog_1_method_17_code 11 = .ok (.iload_n 1, 1) := by decide +kernel
theorem d_X_quote_12 : decode prog_1_method_17_code 12 = .ok (.invokevirtual 48, 3) := by decide +kernel
theorem d_X_quote_15 : decode prog_1_method_17_code 15 = .ok (.invokestatic 37, 3) := by decide +kernel
theorem d_X_quote_18 : decode prog_1_method_17_code 18 = .ok (.ifCond .ne 13, 3) := by decide +kernel
theorem d_X_quote_21 : decode prog_1_method_17_code 21 = .ok (.new 165, 3) := by decide +kernel
theorem d_X_quote_24 : decode prog_1_method_17_code 24 = .ok (.dup, 1) := by decide +kernel
theorem d_X_quote_25 : decode prog_1_method_17_code 25 = .ok (.ldc 167, 2) := by decide +kernel
theorem d_X_quote_27 : decode prog_1_method_17_code 27 = .ok (.invokespecial 169, 3) := by decide +kernel
theorem d_X_quote_30 : decode prog_1_method_17_code 30 = .ok (.athrow, 1) := by decide +kernel
theorem d_X_quote_31 : decode prog_1_method_17_code 31 = .ok (.aload_n 0, 1) := by decide +kernel
theorem d_X_quote_32 : decode prog_1_method_17_code 32 = .ok (.getfield 12, 3) := by decide +kernel
theorem d_X_quote_35 : decode prog_1_method_17_code 35 = .ok (.bipush 28, 2) := by decide +kernel
theorem d_X_quote_37 : decode prog_1_method_17_code 37 = .ok (.iload_n 1, 1) := by decide +kernel
theorem d_X_quote_38 : decode prog_1_method_17_code 38 = .ok (.iload_n 2, 1) := by decide +kernel
theorem d_X_quote_39 : decode prog_1_method_17_code 39 = .ok (.invokevirtual 170, 3) := by decide +kernel
theorem d_X_quote_42 : decode prog_1_method_17_code 42 = .ok (.ireturn, 1) := by decide +kernel
theorem d_X_requireForm_0 : decode prog_1_method_24_code 0 = .ok (.iload_n 0, 1) := by decide +kernel
theorem d_X_requireForm_1 : decode prog_1_method_24_code 1 = .ok (.iconst 0, 1) := by decide +kernel
theorem d_X_requireForm_2 : decode prog_1_method_24_code 2 = .ok (.iconst 3, 1) := by decide +kernel
theorem d_X_requireForm_3 : decode prog_1_method_24_code 3 = .ok (.invokestatic 37, 3) := by decide +kernel
theorem d_X_requireForm_6 : decode prog_1_method_24_code 6 = .ok (.ifCond .ne 13, 3) := by decide +kernel
theorem d_X_requireForm_9 : decode prog_1_method_24_code 9 = .ok (.new 165, 3) := by decide +kernel
theorem d_X_requireForm_12 : decode prog_1_method_24_code 12 = .ok (.dup, 1) := by decide +kernel
theorem d_X_requireForm_13 : decode prog_1_method_24_code 13 = .ok (.ldc 195, 2) := by decide +kernel
theorem d_X_requireForm_15 : decode prog_1_method_24_code 15 = .ok (.invokespecial 169, 3) := by decide +kernel
theorem d_X_requireForm_18 : decode prog_1_method_24_code 18 = .ok (.athrow, 1) := by decide +kernel
theorem d_X_requireForm_19 : decode prog_1_method_24_code 19 = .ok (.return_, 1) := by decide +kernel
theorem d_X_form_0 : decode prog_1_method_18_code 0 = .ok (.iload_n 1, 1) := by decide +kernel
theorem d_X_form_1 : decode prog_1_method_18_code 1 = .ok (.invokestatic 173, 3) := by decide +kernel
theorem d_X_form_4 : decode prog_1_method_18_code 4 = .ok (.aload_n 0, 1) := by decide +kernel
theorem d_X_form_5 : decode prog_1_method_18_code 5 = .ok (.getfield 12, 3) := by decide +kernel
theorem d_X_form_8 : decode prog_1_method_18_code 8 = .ok (.bipush 28, 2) := by decide +kernel
theorem d_X_form_10 : decode prog_1_method_18_code 10 = .ok (.bipush 24, 2) := by decide +kernel
theorem d_X_form_12 : decode prog_1_method_18_code 12 = .ok (.iload_n 1, 1) := by decide +kernel
theorem d_X_form_13 : decode prog_1_method_18_code 13 = .ok (.iadd, 1) := by decide +kernel
theorem d_X_form_14 : decode prog_1_method_18_code 14 = .ok (.invokevirtual 79, 3) := by decide +kernel
theorem d_X_form_17 : decode prog_1_method_18_code 17 = .ok (.ireturn, 1) := by decide +kernel
theorem d_X_digitsOf_0 : decode prog_1_method_33_code 0 = .ok (.iconst 1, 1) := by decide +kernel
theorem d_X_digitsOf_1 : decode prog_1_method_33_code 1 = .ok (.istore_n 1, 1) := by decide +kernel
theorem d_X_digitsOf_2 : decode prog_1_method_33_code 2 = .ok (.iload_n 0, 1) := by decide +kernel
theorem d_X_digitsOf_3 : decode prog_1_method_33_code 3 = .ok (.istore_n 2, 1) := by decide +kernel
theorem d_X_digitsOf_4 : decode prog_1_method_33_code 4 = .ok (.iload_n 2, 1) := by decide +kernel
theorem d_X_digitsOf_5 : decode prog_1_method_33_code 5 = .ok (.bipush 10, 2) := by decide +kernel
theorem d_X_digitsOf_7 : decode prog_1_method_33_code 7 = .ok (.if_icmp .lt 14, 3) := by decide +kernel
theorem d_X_digitsOf_10 : decode prog_1_method_33_code 10 = .ok (.iinc 1 1, 3) := by decide +kernel
theorem d_X_digitsOf_13 : decode prog_1_method_33_code 13 = .ok (.iload_n 2, 1) := by decide +kernel
theorem d_X_digitsOf_14 : decode prog_1_method_33_code 14 = .ok (.bipush 10, 2) := by decide +kernel
theorem d_X_digitsOf_16 : decode prog_1_method_33_code 16 = .ok (.idiv, 1) := by decide +kernel
theorem d_X_digitsOf_17 : decode prog_1_method_33_code 17 = .ok (.istore_n 2, 1) := by decide +kernel
theorem d_X_digitsOf_18 : decode prog_1_method_33_code 18 = .ok (.goto (-14), 3) := by decide +kernel
theorem d_X_digitsOf_21 : decode prog_1_method_33_code 21 = .ok (.iload_n 1, 1) := by decide +kernel
theorem d_X_digitsOf_22 : decode prog_1_method_33_code 22 = .ok (.ireturn, 1) := by decide +kernel
theorem d_S_dayOf_0 : decode prog_4_method_5_code 0 = .ok (.aload_n 0, 1) := by decide +kernel
theorem d_S_dayOf_1 : decode prog_4_method_5_code 1 = .ok (.getfield 15, 3) := by decide +kernel
theorem d_S_dayOf_4 : decode prog_4_method_5_code 4 = .ok (.iload_n 1, 1) := by decide +kernel
theorem d_S_dayOf_5 : decode prog_4_method_5_code 5 = .ok (.iaload, 1) := by decide +kernel
theorem d_S_dayOf_6 : decode prog_4_method_5_code 6 = .ok (.ireturn, 1) := by decide +kernel
theorem d_X_pieceWidth_0 : decode prog_1_method_31_code 0 = .ok (.iload_n 1, 1) := by decide +kernel
theorem d_X_pieceWidth_1 : decode prog_1_method_31_code 1 = .ok (.lookupswitch 44 #[(35, 27), (64, 32)], 27) := by decide +kernel
theorem d_X_pieceWidth_28 : decode prog_1_method_31_code 28 = .ok (.iload_n 2, 1) := by decide +kernel
theorem d_X_pieceWidth_29 : decode prog_1_method_31_code 29 = .ok (.invokestatic 224, 3) := by decide +kernel
theorem d_X_pieceWidth_32 : decode prog_1_method_31_code 32 = .ok (.ireturn, 1) := by decide +kernel
theorem d_X_pieceWidth_33 : decode prog_1_method_31_code 33 = .ok (.aload_n 0, 1) := by decide +kernel
theorem d_X_pieceWidth_34 : decode prog_1_method_31_code 34 = .ok (.getfield 19, 3) := by decide +kernel
theorem d_X_pieceWidth_37 : decode prog_1_method_31_code 37 = .ok (.iload_n 2, 1) := by decide +kernel
theorem d_X_pieceWidth_38 : decode prog_1_method_31_code 38 = .ok (.invokevirtual 227, 3) := by decide +kernel
theorem d_X_pieceWidth_41 : decode prog_1_method_31_code 41 = .ok (.invokestatic 224, 3) := by decide +kernel
theorem d_X_pieceWidth_44 : decode prog_1_method_31_code 44 = .ok (.ireturn, 1) := by decide +kernel
theorem d_X_pieceWidth_45 : decode prog_1_method_31_code 45 = .ok (.iconst 1, 1) := by decide +kernel
theorem d_X_pieceWidth_46 : decode prog_1_method_31_code 46 = .ok (.ireturn, 1) := by decide +kernel
theorem d_X_citationLength_0 : decode prog_1_method_29_code 0 = .ok (.bipush 24, 2) := by decide +kernel
theorem d_X_citationLength_2 : decode prog_1_method_29_code 2 = .ok (.iload_n 2, 1) := by decide +kernel
theorem d_X_citationLength_3 : decode prog_1_method_29_code 3 = .ok (.iadd, 1) := by decide +kernel
theorem d_X_citationLength_4 : decode prog_1_method_29_code 4 = .ok (.istore_n 3, 1) := by decide +kernel
theorem d_X_citationLength_5 : decode prog_1_method_29_code 5 = .ok (.iconst 0, 1) := by decide +kernel
theorem d_X_citationLength_6 : decode prog_1_method_29_code 6 = .ok (.istore 4, 2) := by decide +kernel
theorem d_X_citationLength_8 : decode prog_1_method_29_code 8 = .ok (.iconst 0, 1) := by decide +kernel
theorem d_X_citationLength_9 : decode prog_1_method_29_code 9 = .ok (.istore 5, 2) := by decide +kernel
theorem d_X_citationLength_11 : decode prog_1_method_29_code 11 = .ok (.iload 5, 2) := by decide +kernel
theorem d_X_citationLength_13 : decode prog_1_method_29_code 13 = .ok (.aload_n 0, 1) := by decide +kernel
theorem d_X_citationLength_14 : decode prog_1_method_29_code 14 = .ok (.getfield 12, 3) := by decide +kernel
theorem d_X_citationLength_17 : decode prog_1_method_29_code 17 = .ok (.iload_n 3, 1) := by decide +kernel
theorem d_X_citationLength_18 : decode prog_1_method_29_code 18 = .ok (.invokevirtual 48, 3) := by decide +kernel
theorem d_X_citationLength_21 : decode prog_1_method_29_code 21 = .ok (.if_icmp .ge 29, 3) := by decide +kernel
theorem d_X_citationLength_24 : decode prog_1_method_29_code 24 = .ok (.iload 4, 2) := by decide +kernel
theorem d_X_citationLength_26 : decode prog_1_method_29_code 26 = .ok (.aload_n 0, 1) := by decide +kernel
theorem d_X_citationLength_27 : decode prog_1_method_29_code 27 = .ok (.aload_n 0, 1) := by decide +kernel
theorem d_X_citationLength_28 : decode prog_1_method_29_code 28 = .ok (.getfield 12, 3) := by decide +kernel
theorem d_X_citationLength_31 : decode prog_1_method_29_code 31 = .ok (.iload_n 3, 1) := by decide +kernel
theorem d_X_citationLength_32 : decode prog_1_method_29_code 32 = .ok (.iload 5, 2) := by decide +kernel
theorem d_X_citationLength_34 : decode prog_1_method_29_code 34 = .ok (.invokevirtual 215, 3) := by decide +kernel
theorem d_X_citationLength_37 : decode prog_1_method_29_code 37 = .ok (.iload_n 1, 1) := by decide +kernel
theorem d_X_citationLength_38 : decode prog_1_method_29_code 38 = .ok (.invokevirtual 218, 3) := by decide +kernel
theorem d_X_citationLength_41 : decode prog_1_method_29_code 41 = .ok (.iadd, 1) := by decide +kernel
theorem d_X_citationLength_42 : decode prog_1_method_29_code 42 = .ok (.istore 4, 2) := by decide +kernel
theorem d_X_citationLength_44 : decode prog_1_method_29_code 44 = .ok (.iinc 5 1, 3) := by decide +kernel
theorem d_X_citationLength_47 : decode prog_1_method_29_code 47 = .ok (.goto (-36), 3) := by decide +kernel
theorem d_X_citationLength_50 : decode prog_1_method_29_code 50 = .ok (.iload 4, 2) := by decide +kernel
theorem d_X_citationLength_52 : decode prog_1_method_29_code 52 = .ok (.ireturn, 1) := by decide +kernel
theorem d_X_digitSign_0 : decode prog_1_method_34_code 0 = .ok (.iload_n 0, 1) := by decide +kernel
theorem d_X_digitSign_1 : decode prog_1_method_34_code 1 = .ok (.istore_n 2, 1) := by decide +kernel
theorem d_X_digitSign_2 : decode prog_1_method_34_code 2 = .ok (.iconst 0, 1) := by decide +kernel
theorem d_X_digitSign_3 : decode prog_1_method_34_code 3 = .ok (.istore_n 3, 1) := by decide +kernel
theorem d_X_digitSign_4 : decode prog_1_method_34_code 4 = .ok (.iload_n 3, 1) := by decide +kernel
theorem d_X_digitSign_5 : decode prog_1_method_34_code 5 = .ok (.iload_n 1, 1) := by decide +kernel
theorem d_X_digitSign_6 : decode prog_1_method_34_code 6 = .ok (.if_icmp .ge 14, 3) := by decide +kernel
theorem d_X_digitSign_9 : decode prog_1_method_34_code 9 = .ok (.iload_n 2, 1) := by decide +kernel
theorem d_X_digitSign_10 : decode prog_1_method_34_code 10 = .ok (.bipush 10, 2) := by decide +kernel
theorem d_X_digitSign_12 : decode prog_1_method_34_code 12 = .ok (.idiv, 1) := by decide +kernel
theorem d_X_digitSign_13 : decode prog_1_method_34_code 13 = .ok (.istore_n 2, 1) := by decide +kernel
theorem d_X_digitSign_14 : decode prog_1_method_34_code 14 = .ok (.iinc 3 1, 3) := by decide +kernel
theorem d_X_digitSign_17 : decode prog_1_method_34_code 17 = .ok (.goto (-13), 3) := by decide +kernel
theorem d_X_digitSign_20 : decode prog_1_method_34_code 20 = .ok (.bipush 48, 2) := by decide +kernel
theorem d_X_digitSign_22 : decode prog_1_method_34_code 22 = .ok (.iload_n 2, 1) := by decide +kernel
theorem d_X_digitSign_23 : decode prog_1_method_34_code 23 = .ok (.bipush 10, 2) := by decide +kernel
theorem d_X_digitSign_25 : decode prog_1_method_34_code 25 = .ok (.irem, 1) := by decide +kernel
theorem d_X_digitSign_26 : decode prog_1_method_34_code 26 = .ok (.iadd, 1) := by decide +kernel
theorem d_X_digitSign_27 : decode prog_1_method_34_code 27 = .ok (.ireturn, 1) := by decide +kernel
theorem d_S_kindOf_0 : decode prog_4_method_4_code 0 = .ok (.aload_n 0, 1) := by decide +kernel
theorem d_S_kindOf_1 : decode prog_4_method_4_code 1 = .ok (.getfield 9, 3) := by decide +kernel
theorem d_S_kindOf_4 : decode prog_4_method_4_code 4 = .ok (.iload_n 1, 1) := by decide +kernel
theorem d_S_kindOf_5 : decode prog_4_method_4_code 5 = .ok (.iaload, 1) := by decide +kernel
theorem d_S_kindOf_6 : decode prog_4_method_4_code 6 = .ok (.ireturn, 1) := by decide +kernel
theorem d_X_pieceSign_0 : decode prog_1_method_32_code 0 = .ok (.iload_n 1, 1) := by decide +kernel
theorem d_X_pieceSign_1 : decode prog_1_method_32_code 1 = .ok (.lookupswitch 66 #[(35, 35), (36, 54), (64, 41)], 35) := by decide +kernel
theorem d_X_pieceSign_36 : decode prog_1_method_32_code 36 = .ok (.iload_n 2, 1) := by decide +kernel
theorem d_X_pieceSign_37 : decode prog_1_method_32_code 37 = .ok (.iload_n 3, 1) := by decide +kernel
theorem d_X_pieceSign_38 : decode prog_1_method_32_code 38 = .ok (.invokestatic 230, 3) := by decide +kernel
theorem d_X_pieceSign_41 : decode prog_1_method_32_code 41 = .ok (.ireturn, 1) := by decide +kernel
theorem d_X_pieceSign_42 : decode prog_1_method_32_code 42 = .ok (.aload_n 0, 1) := by decide +kernel
theorem d_X_pieceSign_43 : decode prog_1_method_32_code 43 = .ok (.getfield 19, 3) := by decide +kernel
theorem d_X_pieceSign_46 : decode prog_1_method_32_code 46 = .ok (.iload_n 2, 1) := by decide +kernel
theorem d_X_pieceSign_47 : decode prog_1_method_32_code 47 = .ok (.invokevirtual 227, 3) := by decide +kernel
theorem d_X_pieceSign_50 : decode prog_1_method_32_code 50 = .ok (.iload_n 3, 1) := by decide +kernel
theorem d_X_pieceSign_51 : decode prog_1_method_32_code 51 = .ok (.invokestatic 230, 3) := by decide +kernel
theorem d_X_pieceSign_54 : decode prog_1_method_32_code 54 = .ok (.ireturn, 1) := by decide +kernel
theorem d_X_pieceSign_55 : decode prog_1_method_32_code 55 = .ok (.bipush 97, 2) := by decide +kernel
theorem d_X_pieceSign_57 : decode prog_1_method_32_code 57 = .ok (.aload_n 0, 1) := by decide +kernel
theorem d_X_pieceSign_58 : decode prog_1_method_32_code 58 = .ok (.getfield 19, 3) := by decide +kernel
theorem d_X_pieceSign_61 : decode prog_1_method_32_code 61 = .ok (.iload_n 2, 1) := by decide +kernel
theorem d_X_pieceSign_62 : decode prog_1_method_32_code 62 = .ok (.invokevirtual 233, 3) := by decide +kernel
theorem d_X_pieceSign_65 : decode prog_1_method_32_code 65 = .ok (.iadd, 1) := by decide +kernel
theorem d_X_pieceSign_66 : decode prog_1_method_32_code 66 = .ok (.ireturn, 1) := by decide +kernel
theorem d_X_pieceSign_67 : decode prog_1_method_32_code 67 = .ok (.iload_n 1, 1) := by decide +kernel
theorem d_X_pieceSign_68 : decode prog_1_method_32_code 68 = .ok (.ireturn, 1) := by decide +kernel
theorem d_X_citationSign_0 : decode prog_1_method_30_code 0 = .ok (.bipush 24, 2) := by decide +kernel
theorem d_X_citationSign_2 : decode prog_1_method_30_code 2 = .ok (.iload_n 2, 1) := by decide +kernel
theorem d_X_citationSign_3 : decode prog_1_method_30_code 3 = .ok (.iadd, 1) := by decide +kernel
theorem d_X_citationSign_4 : decode prog_1_method_30_code 4 = .ok (.istore 4, 2) := by decide +kernel
theorem d_X_citationSign_6 : decode prog_1_method_30_code 6 = .ok (.iload_n 3, 1) := by decide +kernel
theorem d_X_citationSign_7 : decode prog_1_method_30_code 7 = .ok (.istore 5, 2) := by decide +kernel
theorem d_X_citationSign_9 : decode prog_1_method_30_code 9 = .ok (.iconst 0, 1) := by decide +kernel
theorem d_X_citationSign_10 : decode prog_1_method_30_code 10 = .ok (.istore 6, 2) := by decide +kernel
theorem d_X_citationSign_12 : decode prog_1_method_30_code 12 = .ok (.iload 6, 2) := by decide +kernel
theorem d_X_citationSign_14 : decode prog_1_method_30_code 14 = .ok (.aload_n 0, 1) := by decide +kernel
theorem d_X_citationSign_15 : decode prog_1_method_30_code 15 = .ok (.getfield 12, 3) := by decide +kernel
theorem d_X_citationSign_18 : decode prog_1_method_30_code 18 = .ok (.iload 4, 2) := by decide +kernel
theorem d_X_citationSign_20 : decode prog_1_method_30_code 20 = .ok (.invokevirtual 48, 3) := by decide +kernel
theorem d_X_citationSign_23 : decode prog_1_method_30_code 23 = .ok (.if_icmp .ge 60, 3) := by decide +kernel
theorem d_X_citationSign_26 : decode prog_1_method_30_code 26 = .ok (.aload_n 0, 1) := by decide +kernel
theorem d_X_citationSign_27 : decode prog_1_method_30_code 27 = .ok (.getfield 12, 3) := by decide +kernel
theorem d_X_citationSign_30 : decode prog_1_method_30_code 30 = .ok (.iload 4, 2) := by decide +kernel
theorem d_X_citationSign_32 : decode prog_1_method_30_code 32 = .ok (.iload 6, 2) := by decide +kernel
theorem d_X_citationSign_34 : decode prog_1_method_30_code 34 = .ok (.invokevirtual 215, 3) := by decide +kernel
theorem d_X_citationSign_37 : decode prog_1_method_30_code 37 = .ok (.istore 7, 2) := by decide +kernel
theorem d_X_citationSign_39 : decode prog_1_method_30_code 39 = .ok (.aload_n 0, 1) := by decide +kernel
theorem d_X_citationSign_40 : decode prog_1_method_30_code 40 = .ok (.iload 7, 2) := by decide +kernel
theorem d_X_citationSign_42 : decode prog_1_method_30_code 42 = .ok (.iload_n 1, 1) := by decide +kernel
theorem d_X_citationSign_43 : decode prog_1_method_30_code 43 = .ok (.invokevirtual 218, 3) := by decide +kernel
theorem d_X_citationSign_46 : decode prog_1_method_30_code 46 = .ok (.istore 8, 2) := by decide +kernel
theorem d_X_citationSign_48 : decode prog_1_method_30_code 48 = .ok (.iload 5, 2) := by decide +kernel
theorem d_X_citationSign_50 : decode prog_1_method_30_code 50 = .ok (.iload 8, 2) := by decide +kernel
theorem d_X_citationSign_52 : decode prog_1_method_30_code 52 = .ok (.if_icmp .ge 18, 3) := by decide +kernel
theorem d_X_citationSign_55 : decode prog_1_method_30_code 55 = .ok (.aload_n 0, 1) := by decide +kernel
theorem d_X_citationSign_56 : decode prog_1_method_30_code 56 = .ok (.iload 7, 2) := by decide +kernel
theorem d_X_citationSign_58 : decode prog_1_method_30_code 58 = .ok (.iload_n 1, 1) := by decide +kernel
theorem d_X_citationSign_59 : decode prog_1_method_30_code 59 = .ok (.iload 8, 2) := by decide +kernel
theorem d_X_citationSign_61 : decode prog_1_method_30_code 61 = .ok (.iconst 1, 1) := by decide +kernel
theorem d_X_citationSign_62 : decode prog_1_method_30_code 62 = .ok (.isub, 1) := by decide +kernel
theorem d_X_citationSign_63 : decode prog_1_method_30_code 63 = .ok (.iload 5, 2) := by decide +kernel
theorem d_X_citationSign_65 : decode prog_1_method_30_code 65 = .ok (.isub, 1) := by decide +kernel
theorem d_X_citationSign_66 : decode prog_1_method_30_code 66 = .ok (.invokevirtual 221, 3) := by decide +kernel
theorem d_X_citationSign_69 : decode prog_1_method_30_code 69 = .ok (.ireturn, 1) := by decide +kernel
theorem d_X_citationSign_70 : decode prog_1_method_30_code 70 = .ok (.iload 5, 2) := by decide +kernel
theorem d_X_citationSign_72 : decode prog_1_method_30_code 72 = .ok (.iload 8, 2) := by decide +kernel
theorem d_X_citationSign_74 : decode prog_1_method_30_code 74 = .ok (.isub, 1) := by decide +kernel
theorem d_X_citationSign_75 : decode prog_1_method_30_code 75 = .ok (.istore 5, 2) := by decide +kernel
theorem d_X_citationSign_77 : decode prog_1_method_30_code 77 = .ok (.iinc 6 1, 3) := by decide +kernel
theorem d_X_citationSign_80 : decode prog_1_method_30_code 80 = .ok (.goto (-68), 3) := by decide +kernel
theorem d_X_citationSign_83 : decode prog_1_method_30_code 83 = .ok (.iconst (-1), 1) := by decide +kernel
theorem d_X_citationSign_84 : decode prog_1_method_30_code 84 = .ok (.ireturn, 1) := by decide +kernel
theorem d_X_cite_0 : decode prog_1_method_19_code 0 = .ok (.aload_n 0, 1) := by decide +kernel
theorem d_X_cite_1 : decode prog_1_method_19_code 1 = .ok (.iload_n 1, 1) := by decide +kernel
theorem d_X_cite_2 : decode prog_1_method_19_code 2 = .ok (.invokevirtual 90, 3) := by decide +kernel
theorem d_X_cite_5 : decode prog_1_method_19_code 5 = .ok (.iload_n 2, 1) := by decide +kernel
theorem d_X_cite_6 : decode prog_1_method_19_code 6 = .ok (.invokestatic 173, 3) := by decide +kernel
theorem d_X_cite_9 : decode prog_1_method_19_code 9 = .ok (.iload_n 3, 1) := by decide +kernel
theorem d_X_cite_10 : decode prog_1_method_19_code 10 = .ok (.iconst (-1), 1) := by decide +kernel
theorem d_X_cite_11 : decode prog_1_method_19_code 11 = .ok (.if_icmp .ne 10, 3) := by decide +kernel
theorem d_X_cite_14 : decode prog_1_method_19_code 14 = .ok (.aload_n 0, 1) := by decide +kernel
theorem d_X_cite_15 : decode prog_1_method_19_code 15 = .ok (.iload_n 1, 1) := by decide +kernel
theorem d_X_cite_16 : decode prog_1_method_19_code 16 = .ok (.iload_n 2, 1) := by decide +kernel
theorem d_X_cite_17 : decode prog_1_method_19_code 17 = .ok (.invokevirtual 176, 3) := by decide +kernel
theorem d_X_cite_20 : decode prog_1_method_19_code 20 = .ok (.ireturn, 1) := by decide +kernel
theorem d_X_cite_21 : decode prog_1_method_19_code 21 = .ok (.iload_n 3, 1) := by decide +kernel
theorem d_X_cite_22 : decode prog_1_method_19_code 22 = .ok (.invokestatic 107, 3) := by decide +kernel
theorem d_X_cite_25 : decode prog_1_method_19_code 25 = .ok (.aload_n 0, 1) := by decide +kernel
theorem d_X_cite_26 : decode prog_1_method_19_code 26 = .ok (.iload_n 1, 1) := by decide +kernel
theorem d_X_cite_27 : decode prog_1_method_19_code 27 = .ok (.iload_n 2, 1) := by decide +kernel
theorem d_X_cite_28 : decode prog_1_method_19_code 28 = .ok (.iload_n 3, 1) := by decide +kernel
theorem d_X_cite_29 : decode prog_1_method_19_code 29 = .ok (.invokevirtual 179, 3) := by decide +kernel
theorem d_X_cite_32 : decode prog_1_method_19_code 32 = .ok (.istore 4, 2) := by decide +kernel
theorem d_X_cite_34 : decode prog_1_method_19_code 34 = .ok (.iload 4, 2) := by decide +kernel
theorem d_X_cite_36 : decode prog_1_method_19_code 36 = .ok (.iconst (-1), 1) := by decide +kernel
theorem d_X_cite_37 : decode prog_1_method_19_code 37 = .ok (.if_icmp .ne 13, 3) := by decide +kernel
theorem d_X_cite_40 : decode prog_1_method_19_code 40 = .ok (.new 165, 3) := by decide +kernel
theorem d_X_cite_43 : decode prog_1_method_19_code 43 = .ok (.dup, 1) := by decide +kernel
theorem d_X_cite_44 : decode prog_1_method_19_code 44 = .ok (.ldc 182, 2) := by decide +kernel
theorem d_X_cite_46 : decode prog_1_method_19_code 46 = .ok (.invokespecial 169, 3) := by decide +kernel
theorem d_X_cite_49 : decode prog_1_method_19_code 49 = .ok (.athrow, 1) := by decide +kernel
theorem d_X_cite_50 : decode prog_1_method_19_code 50 = .ok (.iload 4, 2) := by decide +kernel
theorem d_X_cite_52 : decode prog_1_method_19_code 52 = .ok (.ireturn, 1) := by decide +kernel
theorem d_C_pairs_0 : decode prog_2_method_9_code 0 = .ok (.iconst 0, 1) := by decide +kernel
theorem d_C_pairs_1 : decode prog_2_method_9_code 1 = .ok (.istore_n 1, 1) := by decide +kernel
theorem d_C_pairs_2 : decode prog_2_method_9_code 2 = .ok (.iconst 0, 1) := by decide +kernel
theorem d_C_pairs_3 : decode prog_2_method_9_code 3 = .ok (.istore_n 2, 1) := by decide +kernel
theorem d_C_pairs_4 : decode prog_2_method_9_code 4 = .ok (.iload_n 2, 1) := by decide +kernel
theorem d_C_pairs_5 : decode prog_2_method_9_code 5 = .ok (.aload_n 0, 1) := by decide +kernel
theorem d_C_pairs_6 : decode prog_2_method_9_code 6 = .ok (.getfield 27, 3) := by decide +kernel
theorem d_C_pairs_9 : decode prog_2_method_9_code 9 = .ok (.if_icmp .ge 21, 3) := by decide +kernel
theorem d_C_pairs_12 : decode prog_2_method_9_code 12 = .ok (.iload_n 1, 1) := by decide +kernel
theorem d_C_pairs_13 : decode prog_2_method_9_code 13 = .ok (.aload_n 0, 1) := by decide +kernel
theorem d_C_pairs_14 : decode prog_2_method_9_code 14 = .ok (.getfield 15, 3) := by decide +kernel
theorem d_C_pairs_17 : decode prog_2_method_9_code 17 = .ok (.iload_n 2, 1) := by decide +kernel
theorem d_C_pairs_18 : decode prog_2_method_9_code 18 = .ok (.iaload, 1) := by decide +kernel
theorem d_C_pairs_19 : decode prog_2_method_9_code 19 = .ok (.invokestatic 42, 3) := by decide +kernel
theorem d_C_pairs_22 : decode prog_2_method_9_code 22 = .ok (.iadd, 1) := by decide +kernel
theorem d_C_pairs_23 : decode prog_2_method_9_code 23 = .ok (.istore_n 1, 1) := by decide +kernel
theorem d_C_pairs_24 : decode prog_2_method_9_code 24 = .ok (.iinc 2 1, 3) := by decide +kernel
theorem d_C_pairs_27 : decode prog_2_method_9_code 27 = .ok (.goto (-23), 3) := by decide +kernel
theorem d_C_pairs_30 : decode prog_2_method_9_code 30 = .ok (.iload_n 1, 1) := by decide +kernel
theorem d_C_pairs_31 : decode prog_2_method_9_code 31 = .ok (.ireturn, 1) := by decide +kernel
theorem d_X_count_0 : decode prog_1_method_20_code 0 = .ok (.iload_n 1, 1) := by decide +kernel
theorem d_X_count_1 : decode prog_1_method_20_code 1 = .ok (.tableswitch 77 0 4 #[35, 45, 53, 61, 69], 35) := by decide +kernel
theorem d_X_count_36 : decode prog_1_method_20_code 36 = .ok (.aload_n 0, 1) := by decide +kernel
theorem d_X_count_37 : decode prog_1_method_20_code 37 = .ok (.getfield 12, 3) := by decide +kernel
theorem d_X_count_40 : decode prog_1_method_20_code 40 = .ok (.bipush 28, 2) := by decide +kernel
theorem d_X_count_42 : decode prog_1_method_20_code 42 = .ok (.invokevirtual 48, 3) := by decide +kernel
theorem d_X_count_45 : decode prog_1_method_20_code 45 = .ok (.ireturn, 1) := by decide +kernel
theorem d_X_count_46 : decode prog_1_method_20_code 46 = .ok (.aload_n 0, 1) := by decide +kernel
theorem d_X_count_47 : decode prog_1_method_20_code 47 = .ok (.getfield 19, 3) := by decide +kernel
theorem d_X_count_50 : decode prog_1_method_20_code 50 = .ok (.invokevirtual 70, 3) := by decide +kernel
theorem d_X_count_53 : decode prog_1_method_20_code 53 = .ok (.ireturn, 1) := by decide +kernel
theorem d_X_count_54 : decode prog_1_method_20_code 54 = .ok (.aload_n 0, 1) := by decide +kernel
theorem d_X_count_55 : decode prog_1_method_20_code 55 = .ok (.getfield 26, 3) := by decide +kernel
theorem d_X_count_58 : decode prog_1_method_20_code 58 = .ok (.invokevirtual 82, 3) := by decide +kernel
theorem d_X_count_61 : decode prog_1_method_20_code 61 = .ok (.ireturn, 1) := by decide +kernel
theorem d_X_count_62 : decode prog_1_method_20_code 62 = .ok (.aload_n 0, 1) := by decide +kernel
theorem d_X_count_63 : decode prog_1_method_20_code 63 = .ok (.getfield 33, 3) := by decide +kernel
theorem d_X_count_66 : decode prog_1_method_20_code 66 = .ok (.invokevirtual 127, 3) := by decide +kernel
theorem d_X_count_69 : decode prog_1_method_20_code 69 = .ok (.ireturn, 1) := by decide +kernel
theorem d_X_count_70 : decode prog_1_method_20_code 70 = .ok (.aload_n 0, 1) := by decide +kernel
theorem d_X_count_71 : decode prog_1_method_20_code 71 = .ok (.getfield 26, 3) := by decide +kernel
theorem d_X_count_74 : decode prog_1_method_20_code 74 = .ok (.invokevirtual 184, 3) := by decide +kernel
theorem d_X_count_77 : decode prog_1_method_20_code 77 = .ok (.ireturn, 1) := by decide +kernel
theorem d_X_count_78 : decode prog_1_method_20_code 78 = .ok (.new 41, 3) := by decide +kernel
theorem d_X_count_81 : decode prog_1_method_20_code 81 = .ok (.dup, 1) := by decide +kernel
theorem d_X_count_82 : decode prog_1_method_20_code 82 = .ok (.ldc 187, 2) := by decide +kernel
theorem d_X_count_84 : decode prog_1_method_20_code 84 = .ok (.invokespecial 45, 3) := by decide +kernel
theorem d_X_count_87 : decode prog_1_method_20_code 87 = .ok (.athrow, 1) := by decide +kernel
