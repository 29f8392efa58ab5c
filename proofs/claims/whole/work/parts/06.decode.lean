theorem d_J_fill_0 : decode prog_17_method_103_code 0 = .ok (.iconst 0, 1) := by decide +kernel
theorem d_J_fill_1 : decode prog_17_method_103_code 1 = .ok (.istore_n 2, 1) := by decide +kernel
theorem d_J_fill_2 : decode prog_17_method_103_code 2 = .ok (.aload_n 0, 1) := by decide +kernel
theorem d_J_fill_3 : decode prog_17_method_103_code 3 = .ok (.arraylength, 1) := by decide +kernel
theorem d_J_fill_4 : decode prog_17_method_103_code 4 = .ok (.istore_n 3, 1) := by decide +kernel
theorem d_J_fill_5 : decode prog_17_method_103_code 5 = .ok (.iload_n 2, 1) := by decide +kernel
theorem d_J_fill_6 : decode prog_17_method_103_code 6 = .ok (.iload_n 3, 1) := by decide +kernel
theorem d_J_fill_7 : decode prog_17_method_103_code 7 = .ok (.if_icmp .ge 13, 3) := by decide +kernel
theorem d_J_fill_10 : decode prog_17_method_103_code 10 = .ok (.aload_n 0, 1) := by decide +kernel
theorem d_J_fill_11 : decode prog_17_method_103_code 11 = .ok (.iload_n 2, 1) := by decide +kernel
theorem d_J_fill_12 : decode prog_17_method_103_code 12 = .ok (.iload_n 1, 1) := by decide +kernel
theorem d_J_fill_13 : decode prog_17_method_103_code 13 = .ok (.iastore, 1) := by decide +kernel
theorem d_J_fill_14 : decode prog_17_method_103_code 14 = .ok (.iinc 2 1, 3) := by decide +kernel
theorem d_J_fill_17 : decode prog_17_method_103_code 17 = .ok (.goto (-12), 3) := by decide +kernel
theorem d_J_fill_20 : decode prog_17_method_103_code 20 = .ok (.return_, 1) := by decide +kernel
theorem d_J_bitCount_0 : decode prog_11_method_49_code 0 = .ok (.iload_n 0, 1) := by decide +kernel
theorem d_J_bitCount_1 : decode prog_11_method_49_code 1 = .ok (.iload_n 0, 1) := by decide +kernel
theorem d_J_bitCount_2 : decode prog_11_method_49_code 2 = .ok (.iconst 1, 1) := by decide +kernel
theorem d_J_bitCount_3 : decode prog_11_method_49_code 3 = .ok (.iushr, 1) := by decide +kernel
theorem d_J_bitCount_4 : decode prog_11_method_49_code 4 = .ok (.ldc_w 265, 3) := by decide +kernel
theorem d_J_bitCount_7 : decode prog_11_method_49_code 7 = .ok (.iand, 1) := by decide +kernel
theorem d_J_bitCount_8 : decode prog_11_method_49_code 8 = .ok (.isub, 1) := by decide +kernel
theorem d_J_bitCount_9 : decode prog_11_method_49_code 9 = .ok (.istore_n 0, 1) := by decide +kernel
theorem d_J_bitCount_10 : decode prog_11_method_49_code 10 = .ok (.iload_n 0, 1) := by decide +kernel
theorem d_J_bitCount_11 : decode prog_11_method_49_code 11 = .ok (.ldc_w 266, 3) := by decide +kernel
theorem d_J_bitCount_14 : decode prog_11_method_49_code 14 = .ok (.iand, 1) := by decide +kernel
theorem d_J_bitCount_15 : decode prog_11_method_49_code 15 = .ok (.iload_n 0, 1) := by decide +kernel
theorem d_J_bitCount_16 : decode prog_11_method_49_code 16 = .ok (.iconst 2, 1) := by decide +kernel
theorem d_J_bitCount_17 : decode prog_11_method_49_code 17 = .ok (.iushr, 1) := by decide +kernel
theorem d_J_bitCount_18 : decode prog_11_method_49_code 18 = .ok (.ldc_w 266, 3) := by decide +kernel
theorem d_J_bitCount_21 : decode prog_11_method_49_code 21 = .ok (.iand, 1) := by decide +kernel
theorem d_J_bitCount_22 : decode prog_11_method_49_code 22 = .ok (.iadd, 1) := by decide +kernel
theorem d_J_bitCount_23 : decode prog_11_method_49_code 23 = .ok (.istore_n 0, 1) := by decide +kernel
theorem d_J_bitCount_24 : decode prog_11_method_49_code 24 = .ok (.iload_n 0, 1) := by decide +kernel
theorem d_J_bitCount_25 : decode prog_11_method_49_code 25 = .ok (.iload_n 0, 1) := by decide +kernel
theorem d_J_bitCount_26 : decode prog_11_method_49_code 26 = .ok (.iconst 4, 1) := by decide +kernel
theorem d_J_bitCount_27 : decode prog_11_method_49_code 27 = .ok (.iushr, 1) := by decide +kernel
theorem d_J_bitCount_28 : decode prog_11_method_49_code 28 = .ok (.iadd, 1) := by decide +kernel
theorem d_J_bitCount_29 : decode prog_11_method_49_code 29 = .ok (.ldc_w 267, 3) := by decide +kernel
theorem d_J_bitCount_32 : decode prog_11_method_49_code 32 = .ok (.iand, 1) := by decide +kernel
theorem d_J_bitCount_33 : decode prog_11_method_49_code 33 = .ok (.istore_n 0, 1) := by decide +kernel
theorem d_J_bitCount_34 : decode prog_11_method_49_code 34 = .ok (.iload_n 0, 1) := by decide +kernel
theorem d_J_bitCount_35 : decode prog_11_method_49_code 35 = .ok (.iload_n 0, 1) := by decide +kernel
theorem d_J_bitCount_36 : decode prog_11_method_49_code 36 = .ok (.bipush 8, 2) := by decide +kernel
theorem d_J_bitCount_38 : decode prog_11_method_49_code 38 = .ok (.iushr, 1) := by decide +kernel
theorem d_J_bitCount_39 : decode prog_11_method_49_code 39 = .ok (.iadd, 1) := by decide +kernel
theorem d_J_bitCount_40 : decode prog_11_method_49_code 40 = .ok (.istore_n 0, 1) := by decide +kernel
theorem d_J_bitCount_41 : decode prog_11_method_49_code 41 = .ok (.iload_n 0, 1) := by decide +kernel
theorem d_J_bitCount_42 : decode prog_11_method_49_code 42 = .ok (.iload_n 0, 1) := by decide +kernel
theorem d_J_bitCount_43 : decode prog_11_method_49_code 43 = .ok (.bipush 16, 2) := by decide +kernel
theorem d_J_bitCount_45 : decode prog_11_method_49_code 45 = .ok (.iushr, 1) := by decide +kernel
theorem d_J_bitCount_46 : decode prog_11_method_49_code 46 = .ok (.iadd, 1) := by decide +kernel
theorem d_J_bitCount_47 : decode prog_11_method_49_code 47 = .ok (.istore_n 0, 1) := by decide +kernel
theorem d_J_bitCount_48 : decode prog_11_method_49_code 48 = .ok (.iload_n 0, 1) := by decide +kernel
theorem d_J_bitCount_49 : decode prog_11_method_49_code 49 = .ok (.bipush 63, 2) := by decide +kernel
theorem d_J_bitCount_51 : decode prog_11_method_49_code 51 = .ok (.iand, 1) := by decide +kernel
theorem d_J_bitCount_52 : decode prog_11_method_49_code 52 = .ok (.ireturn, 1) := by decide +kernel
theorem d_X_isWithin_0 : decode prog_1_method_35_code 0 = .ok (.iload_n 0, 1) := by decide +kernel
theorem d_X_isWithin_1 : decode prog_1_method_35_code 1 = .ok (.iload_n 1, 1) := by decide +kernel
theorem d_X_isWithin_2 : decode prog_1_method_35_code 2 = .ok (.if_icmp .lt 12, 3) := by decide +kernel
theorem d_X_isWithin_5 : decode prog_1_method_35_code 5 = .ok (.iload_n 0, 1) := by decide +kernel
theorem d_X_isWithin_6 : decode prog_1_method_35_code 6 = .ok (.iload_n 2, 1) := by decide +kernel
theorem d_X_isWithin_7 : decode prog_1_method_35_code 7 = .ok (.if_icmp .gt 7, 3) := by decide +kernel
theorem d_X_isWithin_10 : decode prog_1_method_35_code 10 = .ok (.iconst 1, 1) := by decide +kernel
theorem d_X_isWithin_11 : decode prog_1_method_35_code 11 = .ok (.goto 4, 3) := by decide +kernel
theorem d_X_isWithin_14 : decode prog_1_method_35_code 14 = .ok (.iconst 0, 1) := by decide +kernel
theorem d_X_isWithin_15 : decode prog_1_method_35_code 15 = .ok (.ireturn, 1) := by decide +kernel
theorem d_T_lengthOf_0 : decode prog_5_method_2_code 0 = .ok (.aload_n 0, 1) := by decide +kernel
theorem d_T_lengthOf_1 : decode prog_5_method_2_code 1 = .ok (.getfield 15, 3) := by decide +kernel
theorem d_T_lengthOf_4 : decode prog_5_method_2_code 4 = .ok (.iload_n 1, 1) := by decide +kernel
theorem d_T_lengthOf_5 : decode prog_5_method_2_code 5 = .ok (.iaload, 1) := by decide +kernel
theorem d_T_lengthOf_6 : decode prog_5_method_2_code 6 = .ok (.ireturn, 1) := by decide +kernel
theorem d_T_append_0 : decode prog_5_method_4_code 0 = .ok (.aload_n 0, 1) := by decide +kernel
theorem d_T_append_1 : decode prog_5_method_4_code 1 = .ok (.getfield 9, 3) := by decide +kernel
theorem d_T_append_4 : decode prog_5_method_4_code 4 = .ok (.iload_n 1, 1) := by decide +kernel
theorem d_T_append_5 : decode prog_5_method_4_code 5 = .ok (.bipush 60, 2) := by decide +kernel
theorem d_T_append_7 : decode prog_5_method_4_code 7 = .ok (.imul, 1) := by decide +kernel
theorem d_T_append_8 : decode prog_5_method_4_code 8 = .ok (.aload_n 0, 1) := by decide +kernel
theorem d_T_append_9 : decode prog_5_method_4_code 9 = .ok (.getfield 15, 3) := by decide +kernel
theorem d_T_append_12 : decode prog_5_method_4_code 12 = .ok (.iload_n 1, 1) := by decide +kernel
theorem d_T_append_13 : decode prog_5_method_4_code 13 = .ok (.iaload, 1) := by decide +kernel
theorem d_T_append_14 : decode prog_5_method_4_code 14 = .ok (.iadd, 1) := by decide +kernel
theorem d_T_append_15 : decode prog_5_method_4_code 15 = .ok (.iload_n 2, 1) := by decide +kernel
theorem d_T_append_16 : decode prog_5_method_4_code 16 = .ok (.iastore, 1) := by decide +kernel
theorem d_T_append_17 : decode prog_5_method_4_code 17 = .ok (.aload_n 0, 1) := by decide +kernel
theorem d_T_append_18 : decode prog_5_method_4_code 18 = .ok (.getfield 15, 3) := by decide +kernel
theorem d_T_append_21 : decode prog_5_method_4_code 21 = .ok (.iload_n 1, 1) := by decide +kernel
theorem d_T_append_22 : decode prog_5_method_4_code 22 = .ok (.dup2, 1) := by decide +kernel
theorem d_T_append_23 : decode prog_5_method_4_code 23 = .ok (.iaload, 1) := by decide +kernel
theorem d_T_append_24 : decode prog_5_method_4_code 24 = .ok (.iconst 1, 1) := by decide +kernel
theorem d_T_append_25 : decode prog_5_method_4_code 25 = .ok (.iadd, 1) := by decide +kernel
theorem d_T_append_26 : decode prog_5_method_4_code 26 = .ok (.iastore, 1) := by decide +kernel
theorem d_T_append_27 : decode prog_5_method_4_code 27 = .ok (.aload_n 0, 1) := by decide +kernel
theorem d_T_append_28 : decode prog_5_method_4_code 28 = .ok (.getfield 15, 3) := by decide +kernel
theorem d_T_append_31 : decode prog_5_method_4_code 31 = .ok (.iload_n 1, 1) := by decide +kernel
theorem d_T_append_32 : decode prog_5_method_4_code 32 = .ok (.iaload, 1) := by decide +kernel
theorem d_T_append_33 : decode prog_5_method_4_code 33 = .ok (.ireturn, 1) := by decide +kernel
theorem d_X_unit_0 : decode prog_1_method_2_code 0 = .ok (.iload_n 1, 1) := by decide +kernel
theorem d_X_unit_1 : decode prog_1_method_2_code 1 = .ok (.iconst 1, 1) := by decide +kernel
theorem d_X_unit_2 : decode prog_1_method_2_code 2 = .ok (.bipush 127, 2) := by decide +kernel
theorem d_X_unit_4 : decode prog_1_method_2_code 4 = .ok (.invokestatic 37, 3) := by decide +kernel
theorem d_X_unit_7 : decode prog_1_method_2_code 7 = .ok (.ifCond .ne 13, 3) := by decide +kernel
theorem d_X_unit_10 : decode prog_1_method_2_code 10 = .ok (.new 41, 3) := by decide +kernel
theorem d_X_unit_13 : decode prog_1_method_2_code 13 = .ok (.dup, 1) := by decide +kernel
theorem d_X_unit_14 : decode prog_1_method_2_code 14 = .ok (.ldc 43, 2) := by decide +kernel
theorem d_X_unit_16 : decode prog_1_method_2_code 16 = .ok (.invokespecial 45, 3) := by decide +kernel
theorem d_X_unit_19 : decode prog_1_method_2_code 19 = .ok (.athrow, 1) := by decide +kernel
theorem d_X_unit_20 : decode prog_1_method_2_code 20 = .ok (.aload_n 0, 1) := by decide +kernel
theorem d_X_unit_21 : decode prog_1_method_2_code 21 = .ok (.getfield 12, 3) := by decide +kernel
theorem d_X_unit_24 : decode prog_1_method_2_code 24 = .ok (.bipush 28, 2) := by decide +kernel
theorem d_X_unit_26 : decode prog_1_method_2_code 26 = .ok (.invokevirtual 48, 3) := by decide +kernel
theorem d_X_unit_29 : decode prog_1_method_2_code 29 = .ok (.bipush 60, 2) := by decide +kernel
theorem d_X_unit_31 : decode prog_1_method_2_code 31 = .ok (.if_icmp .lt 13, 3) := by decide +kernel
theorem d_X_unit_34 : decode prog_1_method_2_code 34 = .ok (.new 52, 3) := by decide +kernel
theorem d_X_unit_37 : decode prog_1_method_2_code 37 = .ok (.dup, 1) := by decide +kernel
theorem d_X_unit_38 : decode prog_1_method_2_code 38 = .ok (.ldc 54, 2) := by decide +kernel
theorem d_X_unit_40 : decode prog_1_method_2_code 40 = .ok (.invokespecial 56, 3) := by decide +kernel
theorem d_X_unit_43 : decode prog_1_method_2_code 43 = .ok (.athrow, 1) := by decide +kernel
theorem d_X_unit_44 : decode prog_1_method_2_code 44 = .ok (.aload_n 0, 1) := by decide +kernel
theorem d_X_unit_45 : decode prog_1_method_2_code 45 = .ok (.getfield 12, 3) := by decide +kernel
theorem d_X_unit_48 : decode prog_1_method_2_code 48 = .ok (.bipush 28, 2) := by decide +kernel
theorem d_X_unit_50 : decode prog_1_method_2_code 50 = .ok (.iload_n 1, 1) := by decide +kernel
theorem d_X_unit_51 : decode prog_1_method_2_code 51 = .ok (.invokevirtual 57, 3) := by decide +kernel
theorem d_X_unit_54 : decode prog_1_method_2_code 54 = .ok (.ireturn, 1) := by decide +kernel
theorem d_T_makeEmpty_0 : decode prog_5_method_5_code 0 = .ok (.aload_n 0, 1) := by decide +kernel
theorem d_T_makeEmpty_1 : decode prog_5_method_5_code 1 = .ok (.getfield 15, 3) := by decide +kernel
theorem d_T_makeEmpty_4 : decode prog_5_method_5_code 4 = .ok (.iload_n 1, 1) := by decide +kernel
theorem d_T_makeEmpty_5 : decode prog_5_method_5_code 5 = .ok (.iaload, 1) := by decide +kernel
theorem d_T_makeEmpty_6 : decode prog_5_method_5_code 6 = .ok (.istore_n 2, 1) := by decide +kernel
theorem d_T_makeEmpty_7 : decode prog_5_method_5_code 7 = .ok (.aload_n 0, 1) := by decide +kernel
theorem d_T_makeEmpty_8 : decode prog_5_method_5_code 8 = .ok (.getfield 15, 3) := by decide +kernel
theorem d_T_makeEmpty_11 : decode prog_5_method_5_code 11 = .ok (.iload_n 1, 1) := by decide +kernel
theorem d_T_makeEmpty_12 : decode prog_5_method_5_code 12 = .ok (.iconst 0, 1) := by decide +kernel
theorem d_T_makeEmpty_13 : decode prog_5_method_5_code 13 = .ok (.iastore, 1) := by decide +kernel
theorem d_T_makeEmpty_14 : decode prog_5_method_5_code 14 = .ok (.iload_n 2, 1) := by decide +kernel
theorem d_T_makeEmpty_15 : decode prog_5_method_5_code 15 = .ok (.ireturn, 1) := by decide +kernel
theorem d_X_clear_0 : decode prog_1_method_3_code 0 = .ok (.aload_n 0, 1) := by decide +kernel
theorem d_X_clear_1 : decode prog_1_method_3_code 1 = .ok (.getfield 12, 3) := by decide +kernel
theorem d_X_clear_4 : decode prog_1_method_3_code 4 = .ok (.bipush 28, 2) := by decide +kernel
theorem d_X_clear_6 : decode prog_1_method_3_code 6 = .ok (.invokevirtual 61, 3) := by decide +kernel
theorem d_X_clear_9 : decode prog_1_method_3_code 9 = .ok (.ireturn, 1) := by decide +kernel
theorem d_X_requireDay_0 : decode prog_1_method_26_code 0 = .ok (.iload_n 0, 1) := by decide +kernel
theorem d_X_requireDay_1 : decode prog_1_method_26_code 1 = .ok (.iconst 0, 1) := by decide +kernel
theorem d_X_requireDay_2 : decode prog_1_method_26_code 2 = .ok (.ldc 199, 2) := by decide +kernel
theorem d_X_requireDay_4 : decode prog_1_method_26_code 4 = .ok (.invokestatic 37, 3) := by decide +kernel
theorem d_X_requireDay_7 : decode prog_1_method_26_code 7 = .ok (.ifCond .ne 13, 3) := by decide +kernel
theorem d_X_requireDay_10 : decode prog_1_method_26_code 10 = .ok (.new 41, 3) := by decide +kernel
theorem d_X_requireDay_13 : decode prog_1_method_26_code 13 = .ok (.dup, 1) := by decide +kernel
theorem d_X_requireDay_14 : decode prog_1_method_26_code 14 = .ok (.ldc 200, 2) := by decide +kernel
theorem d_X_requireDay_16 : decode prog_1_method_26_code 16 = .ok (.invokespecial 45, 3) := by decide +kernel
theorem d_X_requireDay_19 : decode prog_1_method_26_code 19 = .ok (.athrow, 1) := by decide +kernel
theorem d_X_requireDay_20 : decode prog_1_method_26_code 20 = .ok (.return_, 1) := by decide +kernel
theorem d_S_made_0 : decode prog_4_method_2_code 0 = .ok (.aload_n 0, 1) := by decide +kernel
theorem d_S_made_1 : decode prog_4_method_2_code 1 = .ok (.getfield 21, 3) := by decide +kernel
theorem d_S_made_4 : decode prog_4_method_2_code 4 = .ok (.ireturn, 1) := by decide +kernel
theorem d_S_add_0 : decode prog_4_method_3_code 0 = .ok (.aload_n 0, 1) := by decide +kernel
theorem d_S_add_1 : decode prog_4_method_3_code 1 = .ok (.getfield 21, 3) := by decide +kernel
theorem d_S_add_4 : decode prog_4_method_3_code 4 = .ok (.istore_n 3, 1) := by decide +kernel
theorem d_S_add_5 : decode prog_4_method_3_code 5 = .ok (.aload_n 0, 1) := by decide +kernel
theorem d_S_add_6 : decode prog_4_method_3_code 6 = .ok (.getfield 9, 3) := by decide +kernel
theorem d_S_add_9 : decode prog_4_method_3_code 9 = .ok (.iload_n 3, 1) := by decide +kernel
theorem d_S_add_10 : decode prog_4_method_3_code 10 = .ok (.iload_n 1, 1) := by decide +kernel
theorem d_S_add_11 : decode prog_4_method_3_code 11 = .ok (.iastore, 1) := by decide +kernel
theorem d_S_add_12 : decode prog_4_method_3_code 12 = .ok (.aload_n 0, 1) := by decide +kernel
theorem d_S_add_13 : decode prog_4_method_3_code 13 = .ok (.getfield 15, 3) := by decide +kernel
theorem d_S_add_16 : decode prog_4_method_3_code 16 = .ok (.iload_n 3, 1) := by decide +kernel
theorem d_S_add_17 : decode prog_4_method_3_code 17 = .ok (.iload_n 2, 1) := by decide +kernel
theorem d_S_add_18 : decode prog_4_method_3_code 18 = .ok (.iastore, 1) := by decide +kernel
theorem d_S_add_19 : decode prog_4_method_3_code 19 = .ok (.aload_n 0, 1) := by decide +kernel
theorem d_S_add_20 : decode prog_4_method_3_code 20 = .ok (.getfield 18, 3) := by decide +kernel
theorem d_S_add_23 : decode prog_4_method_3_code 23 = .ok (.iload_n 3, 1) := by decide +kernel
theorem d_S_add_24 : decode prog_4_method_3_code 24 = .ok (.iconst (-1), 1) := by decide +kernel
theorem d_S_add_25 : decode prog_4_method_3_code 25 = .ok (.iastore, 1) := by decide +kernel
theorem d_S_add_26 : decode prog_4_method_3_code 26 = .ok (.aload_n 0, 1) := by decide +kernel
theorem d_S_add_27 : decode prog_4_method_3_code 27 = .ok (.dup, 1) := by decide +kernel
theorem d_S_add_28 : decode prog_4_method_3_code 28 = .ok (.getfield 21, 3) := by decide +kernel
theorem d_S_add_31 : decode prog_4_method_3_code 31 = .ok (.iconst 1, 1) := by decide +kernel
theorem d_S_add_32 : decode prog_4_method_3_code 32 = .ok (.iadd, 1) := by decide +kernel
theorem d_S_add_33 : decode prog_4_method_3_code 33 = .ok (.putfield 21, 3) := by decide +kernel
theorem d_S_add_36 : decode prog_4_method_3_code 36 = .ok (.iload_n 3, 1) := by decide +kernel
theorem d_S_add_37 : decode prog_4_method_3_code 37 = .ok (.ireturn, 1) := by decide +kernel
theorem d_T_move_0 : decode prog_5_method_6_code 0 = .ok (.aload_n 0, 1) := by decide +kernel
theorem d_T_move_1 : decode prog_5_method_6_code 1 = .ok (.getfield 15, 3) := by decide +kernel
theorem d_T_move_4 : decode prog_5_method_6_code 4 = .ok (.iload_n 1, 1) := by decide +kernel
theorem d_T_move_5 : decode prog_5_method_6_code 5 = .ok (.iaload, 1) := by decide +kernel
theorem d_T_move_6 : decode prog_5_method_6_code 6 = .ok (.istore_n 3, 1) := by decide +kernel
theorem d_T_move_7 : decode prog_5_method_6_code 7 = .ok (.aload_n 0, 1) := by decide +kernel
theorem d_T_move_8 : decode prog_5_method_6_code 8 = .ok (.getfield 9, 3) := by decide +kernel
theorem d_T_move_11 : decode prog_5_method_6_code 11 = .ok (.iload_n 1, 1) := by decide +kernel
theorem d_T_move_12 : decode prog_5_method_6_code 12 = .ok (.bipush 60, 2) := by decide +kernel
theorem d_T_move_14 : decode prog_5_method_6_code 14 = .ok (.imul, 1) := by decide +kernel
theorem d_T_move_15 : decode prog_5_method_6_code 15 = .ok (.aload_n 0, 1) := by decide +kernel
theorem d_T_move_16 : decode prog_5_method_6_code 16 = .ok (.getfield 9, 3) := by decide +kernel
theorem d_T_move_19 : decode prog_5_method_6_code 19 = .ok (.iload_n 2, 1) := by decide +kernel
theorem d_T_move_20 : decode prog_5_method_6_code 20 = .ok (.bipush 60, 2) := by decide +kernel
theorem d_T_move_22 : decode prog_5_method_6_code 22 = .ok (.imul, 1) := by decide +kernel
theorem d_T_move_23 : decode prog_5_method_6_code 23 = .ok (.iload_n 3, 1) := by decide +kernel
theorem d_T_move_24 : decode prog_5_method_6_code 24 = .ok (.invokestatic 18, 3) := by decide +kernel
theorem d_T_move_27 : decode prog_5_method_6_code 27 = .ok (.aload_n 0, 1) := by decide +kernel
theorem d_T_move_28 : decode prog_5_method_6_code 28 = .ok (.getfield 15, 3) := by decide +kernel
theorem d_T_move_31 : decode prog_5_method_6_code 31 = .ok (.iload_n 2, 1) := by decide +kernel
theorem d_T_move_32 : decode prog_5_method_6_code 32 = .ok (.iload_n 3, 1) := by decide +kernel
theorem d_T_move_33 : decode prog_5_method_6_code 33 = .ok (.iastore, 1) := by decide +kernel
theorem d_T_move_34 : decode prog_5_method_6_code 34 = .ok (.aload_n 0, 1) := by decide +kernel
theorem d_T_move_35 : decode prog_5_method_6_code 35 = .ok (.getfield 15, 3) := by decide +kernel
theorem d_T_move_38 : decode prog_5_method_6_code 38 = .ok (.iload_n 1, 1) := by decide +kernel
theorem d_T_move_39 : decode prog_5_method_6_code 39 = .ok (.iconst 0, 1) := by decide +kernel
theorem d_T_move_40 : decode prog_5_method_6_code 40 = .ok (.iastore, 1) := by decide +kernel
theorem d_T_move_41 : decode prog_5_method_6_code 41 = .ok (.iload_n 3, 1) := by decide +kernel
theorem d_T_move_42 : decode prog_5_method_6_code 42 = .ok (.ireturn, 1) := by decide +kernel
theorem d_X_source_0 : decode prog_1_method_4_code 0 = .ok (.iload_n 1, 1) := by decide +kernel
theorem d_X_source_1 : decode prog_1_method_4_code 1 = .ok (.iconst 0, 1) := by decide +kernel
theorem d_X_source_2 : decode prog_1_method_4_code 2 = .ok (.bipush 25, 2) := by decide +kernel
theorem d_X_source_4 : decode prog_1_method_4_code 4 = .ok (.invokestatic 37, 3) := by decide +kernel
theorem d_X_source_7 : decode prog_1_method_4_code 7 = .ok (.ifCond .ne 13, 3) := by decide +kernel
theorem d_X_source_10 : decode prog_1_method_4_code 10 = .ok (.new 41, 3) := by decide +kernel
theorem d_X_source_13 : decode prog_1_method_4_code 13 = .ok (.dup, 1) := by decide +kernel
theorem d_X_source_14 : decode prog_1_method_4_code 14 = .ok (.ldc 64, 2) := by decide +kernel
theorem d_X_source_16 : decode prog_1_method_4_code 16 = .ok (.invokespecial 45, 3) := by decide +kernel
theorem d_X_source_19 : decode prog_1_method_4_code 19 = .ok (.athrow, 1) := by decide +kernel
theorem d_X_source_20 : decode prog_1_method_4_code 20 = .ok (.iload_n 2, 1) := by decide +kernel
theorem d_X_source_21 : decode prog_1_method_4_code 21 = .ok (.invokestatic 66, 3) := by decide +kernel
theorem d_X_source_24 : decode prog_1_method_4_code 24 = .ok (.aload_n 0, 1) := by decide +kernel
theorem d_X_source_25 : decode prog_1_method_4_code 25 = .ok (.getfield 19, 3) := by decide +kernel
theorem d_X_source_28 : decode prog_1_method_4_code 28 = .ok (.invokevirtual 70, 3) := by decide +kernel
theorem d_X_source_31 : decode prog_1_method_4_code 31 = .ok (.bipush 24, 2) := by decide +kernel
theorem d_X_source_33 : decode prog_1_method_4_code 33 = .ok (.if_icmp .lt 13, 3) := by decide +kernel
theorem d_X_source_36 : decode prog_1_method_4_code 36 = .ok (.new 52, 3) := by decide +kernel
theorem d_X_source_39 : decode prog_1_method_4_code 39 = .ok (.dup, 1) := by decide +kernel
theorem d_X_source_40 : decode prog_1_method_4_code 40 = .ok (.ldc 74, 2) := by decide +kernel
theorem d_X_source_42 : decode prog_1_method_4_code 42 = .ok (.invokespecial 56, 3) := by decide +kernel
theorem d_X_source_45 : decode prog_1_method_4_code 45 = .ok (.athrow, 1) := by decide +kernel
theorem d_X_source_46 : decode prog_1_method_4_code 46 = .ok (.aload_n 0, 1) := by decide +kernel
theorem d_X_source_47 : decode prog_1_method_4_code 47 = .ok (.getfield 19, 3) := by decide +kernel
theorem d_X_source_50 : decode prog_1_method_4_code 50 = .ok (.iload_n 1, 1) := by decide +kernel
theorem d_X_source_51 : decode prog_1_method_4_code 51 = .ok (.iload_n 2, 1) := by decide +kernel
theorem d_X_source_52 : decode prog_1_method_4_code 52 = .ok (.invokevirtual 76, 3) := by decide +kernel
theorem d_X_source_55 : decode prog_1_method_4_code 55 = .ok (.istore_n 3, 1) := by decide +kernel
theorem d_X_source_56 : decode prog_1_method_4_code 56 = .ok (.aload_n 0, 1) := by decide +kernel
theorem d_X_source_57 : decode prog_1_method_4_code 57 = .ok (.getfield 12, 3) := by decide +kernel
theorem d_X_source_60 : decode prog_1_method_4_code 60 = .ok (.bipush 28, 2) := by decide +kernel
theorem d_X_source_62 : decode prog_1_method_4_code 62 = .ok (.iload_n 3, 1) := by decide +kernel
theorem d_X_source_63 : decode prog_1_method_4_code 63 = .ok (.invokevirtual 79, 3) := by decide +kernel
theorem d_X_source_66 : decode prog_1_method_4_code 66 = .ok (.pop, 1) := by decide +kernel
theorem d_X_source_67 : decode prog_1_method_4_code 67 = .ok (.iload_n 3, 1) := by decide +kernel
theorem d_X_source_68 : decode prog_1_method_4_code 68 = .ok (.ireturn, 1) := by decide +kernel
theorem d_C_made_0 : decode prog_2_method_2_code 0 = .ok (.aload_n 0, 1) := by decide +kernel
theorem d_C_made_1 : decode prog_2_method_2_code 1 = .ok (.getfield 27, 3) := by decide +kernel
theorem d_C_made_4 : decode prog_2_method_2_code 4 = .ok (.ireturn, 1) := by decide +kernel
theorem d_C_add_0 : decode prog_2_method_3_code 0 = .ok (.aload_n 0, 1) := by decide +kernel
theorem d_C_add_1 : decode prog_2_method_3_code 1 = .ok (.getfield 27, 3) := by decide +kernel
theorem d_C_add_4 : decode prog_2_method_3_code 4 = .ok (.istore_n 1, 1) := by decide +kernel
theorem d_C_add_5 : decode prog_2_method_3_code 5 = .ok (.aload_n 0, 1) := by decide +kernel
theorem d_C_add_6 : decode prog_2_method_3_code 6 = .ok (.dup, 1) := by decide +kernel
theorem d_C_add_7 : decode prog_2_method_3_code 7 = .ok (.getfield 27, 3) := by decide +kernel
theorem d_C_add_10 : decode prog_2_method_3_code 10 = .ok (.iconst 1, 1) := by decide +kernel
theorem d_C_add_11 : decode prog_2_method_3_code 11 = .ok (.iadd, 1) := by decide +kernel
theorem d_C_add_12 : decode prog_2_method_3_code 12 = .ok (.putfield 27, 3) := by decide +kernel
theorem d_C_add_15 : decode prog_2_method_3_code 15 = .ok (.iload_n 1, 1) := by decide +kernel
theorem d_C_add_16 : decode prog_2_method_3_code 16 = .ok (.ireturn, 1) := by decide +kernel
theorem d_X_claim_0 : decode prog_1_method_5_code 0 = .ok (.aload_n 0, 1) := by decide +kernel
theorem d_X_claim_1 : decode prog_1_method_5_code 1 = .ok (.getfield 26, 3) := by decide +kernel
theorem d_X_claim_4 : decode prog_1_method_5_code 4 = .ok (.invokevirtual 82, 3) := by decide +kernel
theorem d_X_claim_7 : decode prog_1_method_5_code 7 = .ok (.bipush 24, 2) := by decide +kernel
theorem d_X_claim_9 : decode prog_1_method_5_code 9 = .ok (.if_icmp .lt 13, 3) := by decide +kernel
theorem d_X_claim_12 : decode prog_1_method_5_code 12 = .ok (.new 52, 3) := by decide +kernel
theorem d_X_claim_15 : decode prog_1_method_5_code 15 = .ok (.dup, 1) := by decide +kernel
theorem d_X_claim_16 : decode prog_1_method_5_code 16 = .ok (.ldc 83, 2) := by decide +kernel
theorem d_X_claim_18 : decode prog_1_method_5_code 18 = .ok (.invokespecial 56, 3) := by decide +kernel
theorem d_X_claim_21 : decode prog_1_method_5_code 21 = .ok (.athrow, 1) := by decide +kernel
theorem d_X_claim_22 : decode prog_1_method_5_code 22 = .ok (.aload_n 0, 1) := by decide +kernel
theorem d_X_claim_23 : decode prog_1_method_5_code 23 = .ok (.getfield 26, 3) := by decide +kernel
theorem d_X_claim_26 : decode prog_1_method_5_code 26 = .ok (.invokevirtual 85, 3) := by decide +kernel
theorem d_X_claim_29 : decode prog_1_method_5_code 29 = .ok (.ireturn, 1) := by decide +kernel
theorem d_X_requireClaim_0 : decode prog_1_method_22_code 0 = .ok (.iload_n 1, 1) := by decide +kernel
theorem d_X_requireClaim_1 : decode prog_1_method_22_code 1 = .ok (.iconst 0, 1) := by decide +kernel
theorem d_X_requireClaim_2 : decode prog_1_method_22_code 2 = .ok (.aload_n 0, 1) := by decide +kernel
theorem d_X_requireClaim_3 : decode prog_1_method_22_code 3 = .ok (.getfield 26, 3) := by decide +kernel
theorem d_X_requireClaim_6 : decode prog_1_method_22_code 6 = .ok (.invokevirtual 82, 3) := by decide +kernel
theorem d_X_requireClaim_9 : decode prog_1_method_22_code 9 = .ok (.iconst 1, 1) := by decide +kernel
theorem d_X_requireClaim_10 : decode prog_1_method_22_code 10 = .ok (.isub, 1) := by decide +kernel
theorem d_X_requireClaim_11 : decode prog_1_method_22_code 11 = .ok (.invokestatic 37, 3) := by decide +kernel
theorem d_X_requireClaim_14 : decode prog_1_method_22_code 14 = .ok (.ifCond .ne 13, 3) := by decide +kernel
theorem d_X_requireClaim_17 : decode prog_1_method_22_code 17 = .ok (.new 165, 3) := by decide +kernel
theorem d_X_requireClaim_20 : decode prog_1_method_22_code 20 = .ok (.dup, 1) := by decide +kernel
theorem d_X_requireClaim_21 : decode prog_1_method_22_code 21 = .ok (.ldc 191, 2) := by decide +kernel
theorem d_X_requireClaim_23 : decode prog_1_method_22_code 23 = .ok (.invokespecial 169, 3) := by decide +kernel
theorem d_X_requireClaim_26 : decode prog_1_method_22_code 26 = .ok (.athrow, 1) := by decide +kernel
theorem d_X_requireClaim_27 : decode prog_1_method_22_code 27 = .ok (.return_, 1) := by decide +kernel
theorem d_X_requireSource_0 : decode prog_1_method_21_code 0 = .ok (.iload_n 1, 1) := by decide +kernel
theorem d_X_requireSource_1 : decode prog_1_method_21_code 1 = .ok (.iconst 0, 1) := by decide +kernel
theorem d_X_requireSource_2 : decode prog_1_method_21_code 2 = .ok (.aload_n 0, 1) := by decide +kernel
theorem d_X_requireSource_3 : decode prog_1_method_21_code 3 = .ok (.getfield 19, 3) := by decide +kernel
theorem d_X_requireSource_6 : decode prog_1_method_21_code 6 = .ok (.invokevirtual 70, 3) := by decide +kernel
theorem d_X_requireSource_9 : decode prog_1_method_21_code 9 = .ok (.iconst 1, 1) := by decide +kernel
theorem d_X_requireSource_10 : decode prog_1_method_21_code 10 = .ok (.isub, 1) := by decide +kernel
theorem d_X_requireSource_11 : decode prog_1_method_21_code 11 = .ok (.invokestatic 37, 3) := by decide +kernel
theorem d_X_requireSource_14 : decode prog_1_method_21_code 14 = .ok (.ifCond .ne 13, 3) := by decide +kernel
theorem d_X_requireSource_17 : decode prog_1_method_21_code 17 = .ok (.new 165, 3) := by decide +kernel
theorem d_X_requireSource_20 : decode prog_1_method_21_code 20 = .ok (.dup, 1) := by decide +kernel
theorem d_X_requireSource_21 : decode prog_1_method_21_code 21 = .ok (.ldc 189, 2) := by decide +kernel
theorem d_X_requireSource_23 : decode prog_1_method_21_code 23 = .ok (.invokespecial 169, 3) := by decide +kernel
theorem d_X_requireSource_26 : decode prog_1_method_21_code 26 = .ok (.athrow, 1) := by decide +kernel
theorem d_X_requireSource_27 : decode prog_1_method_21_code 27 = .ok (.return_, 1) := by decide +kernel
theorem d_X_with_0 : decode prog_1_method_37_code 0 = .ok (.iload_n 0, 1) := by decide +kernel
theorem d_X_with_1 : decode prog_1_method_37_code 1 = .ok (.iconst 1, 1) := by decide +kernel
theorem d_X_with_2 : decode prog_1_method_37_code 2 = .ok (.iload_n 1, 1) := by decide +kernel
theorem d_X_with_3 : decode prog_1_method_37_code 3 = .ok (.ishl, 1) := by decide +kernel
theorem d_X_with_4 : decode prog_1_method_37_code 4 = .ok (.ior, 1) := by decide +kernel
theorem d_X_with_5 : decode prog_1_method_37_code 5 = .ok (.ireturn, 1) := by decide +kernel
theorem d_X_without_0 : decode prog_1_method_38_code 0 = .ok (.iload_n 0, 1) := by decide +kernel
theorem d_X_without_1 : decode prog_1_method_38_code 1 = .ok (.iconst 1, 1) := by decide +kernel
theorem d_X_without_2 : decode prog_1_method_38_code 2 = .ok (.iload_n 1, 1) := by decide +kernel
theorem d_X_without_3 : decode prog_1_method_38_code 3 = .ok (.ishl, 1) := by decide +kernel
theorem d_X_without_4 : decode prog_1_method_38_code 4 = .ok (.iconst (-1), 1) := by decide +kernel
theorem d_X_without_5 : decode prog_1_method_38_code 5 = .ok (.ixor, 1) := by decide +kernel
theorem d_X_without_6 : decode prog_1_method_38_code 6 = .ok (.iand, 1) := by decide +kernel
theorem d_X_without_7 : decode prog_1_method_38_code 7 = .ok (.ireturn, 1) := by decide +kernel
theorem d_C_setSource_0 : decode prog_2_method_6_code 0 = .ok (.aload_n 0, 1) := by decide +kernel
theorem d_C_setSource_1 : decode prog_2_method_6_code 1 = .ok (.getfield 9, 3) := by decide +kernel
theorem d_C_setSource_4 : decode prog_2_method_6_code 4 = .ok (.iload_n 1, 1) := by decide +kernel
theorem d_C_setSource_5 : decode prog_2_method_6_code 5 = .ok (.iaload, 1) := by decide +kernel
theorem d_C_setSource_6 : decode prog_2_method_6_code 6 = .ok (.istore 4, 2) := by decide +kernel
theorem d_C_setSource_8 : decode prog_2_method_6_code 8 = .ok (.aload_n 0, 1) := by decide +kernel
theorem d_C_setSource_9 : decode prog_2_method_6_code 9 = .ok (.getfield 9, 3) := by decide +kernel
theorem d_C_setSource_12 : decode prog_2_method_6_code 12 = .ok (.iload_n 1, 1) := by decide +kernel
theorem d_C_setSource_13 : decode prog_2_method_6_code 13 = .ok (.iload_n 3, 1) := by decide +kernel
theorem d_C_setSource_14 : decode prog_2_method_6_code 14 = .ok (.ifCond .eq 12, 3) := by decide +kernel
theorem d_C_setSource_17 : decode prog_2_method_6_code 17 = .ok (.iload 4, 2) := by decide +kernel
theorem d_C_setSource_19 : decode prog_2_method_6_code 19 = .ok (.iload_n 2, 1) := by decide +kernel
theorem d_C_setSource_20 : decode prog_2_method_6_code 20 = .ok (.invokestatic 31, 3) := by decide +kernel
theorem d_C_setSource_23 : decode prog_2_method_6_code 23 = .ok (.goto 9, 3) := by decide +kernel
theorem d_C_setSource_26 : decode prog_2_method_6_code 26 = .ok (.iload 4, 2) := by decide +kernel
theorem d_C_setSource_28 : decode prog_2_method_6_code 28 = .ok (.iload_n 2, 1) := by decide +kernel
theorem d_C_setSource_29 : decode prog_2_method_6_code 29 = .ok (.invokestatic 35, 3) := by decide +kernel
theorem d_C_setSource_32 : decode prog_2_method_6_code 32 = .ok (.iastore, 1) := by decide +kernel
theorem d_C_setSource_33 : decode prog_2_method_6_code 33 = .ok (.aload_n 0, 1) := by decide +kernel
theorem d_C_setSource_34 : decode prog_2_method_6_code 34 = .ok (.getfield 9, 3) := by decide +kernel
theorem d_C_setSource_37 : decode prog_2_method_6_code 37 = .ok (.iload_n 1, 1) := by decide +kernel
theorem d_C_setSource_38 : decode prog_2_method_6_code 38 = .ok (.iaload, 1) := by decide +kernel
theorem d_C_setSource_39 : decode prog_2_method_6_code 39 = .ok (.iload 4, 2) := by decide +kernel
theorem d_C_setSource_41 : decode prog_2_method_6_code 41 = .ok (.if_icmp .eq 7, 3) := by decide +kernel
theorem d_C_setSource_44 : decode prog_2_method_6_code 44 = .ok (.iconst 1, 1) := by decide +kernel
theorem d_C_setSource_45 : decode prog_2_method_6_code 45 = .ok (.goto 4, 3) := by decide +kernel
theorem d_C_setSource_48 : decode prog_2_method_6_code 48 = .ok (.iconst 0, 1) := by decide +kernel
theorem d_C_setSource_49 : decode prog_2_method_6_code 49 = .ok (.ireturn, 1) := by decide +kernel
theorem d_X_rests_0 : decode prog_1_method_6_code 0 = .ok (.aload_n 0, 1) := by decide +kernel
theorem d_X_rests_1 : decode prog_1_method_6_code 1 = .ok (.iload_n 1, 1) := by decide +kernel
theorem d_X_rests_2 : decode prog_1_method_6_code 2 = .ok (.invokevirtual 87, 3) := by decide +kernel
theorem d_X_rests_5 : decode prog_1_method_6_code 5 = .ok (.aload_n 0, 1) := by decide +kernel
theorem d_X_rests_6 : decode prog_1_method_6_code 6 = .ok (.iload_n 2, 1) := by decide +kernel
theorem d_X_rests_7 : decode prog_1_method_6_code 7 = .ok (.invokevirtual 90, 3) := by decide +kernel
theorem d_X_rests_10 : decode prog_1_method_6_code 10 = .ok (.aload_n 0, 1) := by decide +kernel
theorem d_X_rests_11 : decode prog_1_method_6_code 11 = .ok (.getfield 26, 3) := by decide +kernel
theorem d_X_rests_14 : decode prog_1_method_6_code 14 = .ok (.iload_n 1, 1) := by decide +kernel
theorem d_X_rests_15 : decode prog_1_method_6_code 15 = .ok (.iload_n 2, 1) := by decide +kernel
theorem d_X_rests_16 : decode prog_1_method_6_code 16 = .ok (.iload_n 3, 1) := by decide +kernel
theorem d_X_rests_17 : decode prog_1_method_6_code 17 = .ok (.invokevirtual 93, 3) := by decide +kernel
theorem d_X_rests_20 : decode prog_1_method_6_code 20 = .ok (.ireturn, 1) := by decide +kernel
theorem d_X_contains_0 : decode prog_1_method_36_code 0 = .ok (.iload_n 0, 1) := by decide +kernel
theorem d_X_contains_1 : decode prog_1_method_36_code 1 = .ok (.iconst 1, 1) := by decide +kernel
theorem d_X_contains_2 : decode prog_1_method_36_code 2 = .ok (.iload_n 1, 1) := by decide +kernel
theorem d_X_contains_3 : decode prog_1_method_36_code 3 = .ok (.ishl, 1) := by decide +kernel
theorem d_X_contains_4 : decode prog_1_method_36_code 4 = .ok (.iand, 1) := by decide +kernel
theorem d_X_contains_5 : decode prog_1_method_36_code 5 = .ok (.ifCond .eq 7, 3) := by decide +kernel
theorem d_X_contains_8 : decode prog_1_method_36_code 8 = .ok (.iconst 1, 1) := by decide +kernel
theorem d_X_contains_9 : decode prog_1_method_36_code 9 = .ok (.goto 4, 3) := by decide +kernel
theorem d_X_contains_12 : decode prog_1_method_36_code 12 = .ok (.iconst 0, 1) := by decide +kernel
theorem d_X_contains_13 : decode prog_1_method_36_code 13 = .ok (.ireturn, 1) := by decide +kernel
theorem d_C_isOn_0 : decode prog_2_method_7_code 0 = .ok (.aload_n 0, 1) := by decide +kernel
theorem d_C_isOn_1 : decode prog_2_method_7_code 1 = .ok (.getfield 15, 3) := by decide +kernel
theorem d_C_isOn_4 : decode prog_2_method_7_code 4 = .ok (.iload_n 1, 1) := by decide +kernel
theorem d_C_isOn_5 : decode prog_2_method_7_code 5 = .ok (.iaload, 1) := by decide +kernel
theorem d_C_isOn_6 : decode prog_2_method_7_code 6 = .ok (.iload_n 2, 1) := by decide +kernel
theorem d_C_isOn_7 : decode prog_2_method_7_code 7 = .ok (.invokestatic 38, 3) := by decide +kernel
theorem d_C_isOn_10 : decode prog_2_method_7_code 10 = .ok (.ireturn, 1) := by decide +kernel
theorem d_C_markThoseAbove_0 : decode prog_2_method_14_code 0 = .ok (.iconst 0, 1) := by decide +kernel
theorem d_C_markThoseAbove_1 : decode prog_2_method_14_code 1 = .ok (.istore_n 3, 1) := by decide +kernel
theorem d_C_markThoseAbove_2 : decode prog_2_method_14_code 2 = .ok (.iconst 0, 1) := by decide +kernel
theorem d_C_markThoseAbove_3 : decode prog_2_method_14_code 3 = .ok (.istore 4, 2) := by decide +kernel
theorem d_C_markThoseAbove_5 : decode prog_2_method_14_code 5 = .ok (.iload 4, 2) := by decide +kernel
theorem d_C_markThoseAbove_7 : decode prog_2_method_14_code 7 = .ok (.aload_n 0, 1) := by decide +kernel
theorem d_C_markThoseAbove_8 : decode prog_2_method_14_code 8 = .ok (.getfield 27, 3) := by decide +kernel
theorem d_C_markThoseAbove_11 : decode prog_2_method_14_code 11 = .ok (.if_icmp .ge 47, 3) := by decide +kernel
theorem d_C_markThoseAbove_14 : decode prog_2_method_14_code 14 = .ok (.aload_n 0, 1) := by decide +kernel
theorem d_C_markThoseAbove_15 : decode prog_2_method_14_code 15 = .ok (.getfield 24, 3) := by decide +kernel
theorem d_C_markThoseAbove_18 : decode prog_2_method_14_code 18 = .ok (.iload 4, 2) := by decide +kernel
theorem d_C_markThoseAbove_20 : decode prog_2_method_14_code 20 = .ok (.iaload, 1) := by decide +kernel
theorem d_C_markThoseAbove_21 : decode prog_2_method_14_code 21 = .ok (.iconst (-1), 1) := by decide +kernel
theorem d_C_markThoseAbove_22 : decode prog_2_method_14_code 22 = .ok (.if_icmp .ne 30, 3) := by decide +kernel
theorem d_C_markThoseAbove_25 : decode prog_2_method_14_code 25 = .ok (.aload_n 0, 1) := by decide +kernel
theorem d_C_markThoseAbove_26 : decode prog_2_method_14_code 26 = .ok (.getfield 15, 3) := by decide +kernel
theorem d_C_markThoseAbove_29 : decode prog_2_method_14_code 29 = .ok (.iload 4, 2) := by decide +kernel
theorem d_C_markThoseAbove_31 : decode prog_2_method_14_code 31 = .ok (.iaload, 1) := by decide +kernel
theorem d_C_markThoseAbove_32 : decode prog_2_method_14_code 32 = .ok (.iload_n 1, 1) := by decide +kernel
theorem d_C_markThoseAbove_33 : decode prog_2_method_14_code 33 = .ok (.iand, 1) := by decide +kernel
theorem d_C_markThoseAbove_34 : decode prog_2_method_14_code 34 = .ok (.ifCond .eq 18, 3) := by decide +kernel
theorem d_C_markThoseAbove_37 : decode prog_2_method_14_code 37 = .ok (.aload_n 0, 1) := by decide +kernel
theorem d_C_markThoseAbove_38 : decode prog_2_method_14_code 38 = .ok (.getfield 24, 3) := by decide +kernel
theorem d_C_markThoseAbove_41 : decode prog_2_method_14_code 41 = .ok (.iload 4, 2) := by decide +kernel
theorem d_C_markThoseAbove_43 : decode prog_2_method_14_code 43 = .ok (.iload_n 2, 1) := by decide +kernel
theorem d_C_markThoseAbove_44 : decode prog_2_method_14_code 44 = .ok (.iastore, 1) := by decide +kernel
theorem d_C_markThoseAbove_45 : decode prog_2_method_14_code 45 = .ok (.iload_n 3, 1) := by decide +kernel
theorem d_C_markThoseAbove_46 : decode prog_2_method_14_code 46 = .ok (.iload 4, 2) := by decide +kernel
theorem d_C_markThoseAbove_48 : decode prog_2_method_14_code 48 = .ok (.invokestatic 31, 3) := by decide +kernel
theorem d_C_markThoseAbove_51 : decode prog_2_method_14_code 51 = .ok (.istore_n 3, 1) := by decide +kernel
theorem d_C_markThoseAbove_52 : decode prog_2_method_14_code 52 = .ok (.iinc 4 1, 3) := by decide +kernel
theorem d_C_markThoseAbove_55 : decode prog_2_method_14_code 55 = .ok (.goto (-50), 3) := by decide +kernel
theorem d_C_markThoseAbove_58 : decode prog_2_method_14_code 58 = .ok (.iload_n 3, 1) := by decide +kernel
theorem d_C_markThoseAbove_59 : decode prog_2_method_14_code 59 = .ok (.ireturn, 1) := by decide +kernel
theorem d_C_measureStepsTo_0 : decode prog_2_method_13_code 0 = .ok (.aload_n 0, 1) := by decide +kernel
theorem d_C_measureStepsTo_1 : decode prog_2_method_13_code 1 = .ok (.getfield 24, 3) := by decide +kernel
theorem d_C_measureStepsTo_4 : decode prog_2_method_13_code 4 = .ok (.iconst (-1), 1) := by decide +kernel
theorem d_C_measureStepsTo_5 : decode prog_2_method_13_code 5 = .ok (.invokestatic 58, 3) := by decide +kernel
theorem d_C_measureStepsTo_8 : decode prog_2_method_13_code 8 = .ok (.aload_n 0, 1) := by decide +kernel
theorem d_C_measureStepsTo_9 : decode prog_2_method_13_code 9 = .ok (.getfield 24, 3) := by decide +kernel
theorem d_C_measureStepsTo_12 : decode prog_2_method_13_code 12 = .ok (.iload_n 1, 1) := by decide +kernel
theorem d_C_measureStepsTo_13 : decode prog_2_method_13_code 13 = .ok (.iconst 0, 1) := by decide +kernel
theorem d_C_measureStepsTo_14 : decode prog_2_method_13_code 14 = .ok (.iastore, 1) := by decide +kernel
theorem d_C_measureStepsTo_15 : decode prog_2_method_13_code 15 = .ok (.iconst 0, 1) := by decide +kernel
theorem d_C_measureStepsTo_16 : decode prog_2_method_13_code 16 = .ok (.iload_n 1, 1) := by decide +kernel
theorem d_C_measureStepsTo_17 : decode prog_2_method_13_code 17 = .ok (.invokestatic 31, 3) := by decide +kernel
theorem d_C_measureStepsTo_20 : decode prog_2_method_13_code 20 = .ok (.istore_n 2, 1) := by decide +kernel
theorem d_C_measureStepsTo_21 : decode prog_2_method_13_code 21 = .ok (.iconst 1, 1) := by decide +kernel
theorem d_C_measureStepsTo_22 : decode prog_2_method_13_code 22 = .ok (.istore_n 3, 1) := by decide +kernel
theorem d_C_measureStepsTo_23 : decode prog_2_method_13_code 23 = .ok (.iload_n 3, 1) := by decide +kernel
theorem d_C_measureStepsTo_24 : decode prog_2_method_13_code 24 = .ok (.bipush 24, 2) := by decide +kernel
theorem d_C_measureStepsTo_26 : decode prog_2_method_13_code 26 = .ok (.if_icmp .ge 20, 3) := by decide +kernel
theorem d_C_measureStepsTo_29 : decode prog_2_method_13_code 29 = .ok (.iload_n 2, 1) := by decide +kernel
theorem d_C_measureStepsTo_30 : decode prog_2_method_13_code 30 = .ok (.ifCond .eq 16, 3) := by decide +kernel
theorem d_C_measureStepsTo_33 : decode prog_2_method_13_code 33 = .ok (.aload_n 0, 1) := by decide +kernel
theorem d_C_measureStepsTo_34 : decode prog_2_method_13_code 34 = .ok (.iload_n 2, 1) := by decide +kernel
theorem d_C_measureStepsTo_35 : decode prog_2_method_13_code 35 = .ok (.iload_n 3, 1) := by decide +kernel
theorem d_C_measureStepsTo_36 : decode prog_2_method_13_code 36 = .ok (.invokevirtual 64, 3) := by decide +kernel
theorem d_C_measureStepsTo_39 : decode prog_2_method_13_code 39 = .ok (.istore_n 2, 1) := by decide +kernel
theorem d_C_measureStepsTo_40 : decode prog_2_method_13_code 40 = .ok (.iinc 3 1, 3) := by decide +kernel
theorem d_C_measureStepsTo_43 : decode prog_2_method_13_code 43 = .ok (.goto (-20), 3) := by decide +kernel
theorem d_C_measureStepsTo_46 : decode prog_2_method_13_code 46 = .ok (.return_, 1) := by decide +kernel
theorem d_C_lowestBelow_0 : decode prog_2_method_15_code 0 = .ok (.iconst 0, 1) := by decide +kernel
theorem d_C_lowestBelow_1 : decode prog_2_method_15_code 1 = .ok (.istore_n 3, 1) := by decide +kernel
theorem d_C_lowestBelow_2 : decode prog_2_method_15_code 2 = .ok (.iload_n 3, 1) := by decide +kernel
theorem d_C_lowestBelow_3 : decode prog_2_method_15_code 3 = .ok (.aload_n 0, 1) := by decide +kernel
theorem d_C_lowestBelow_4 : decode prog_2_method_15_code 4 = .ok (.getfield 27, 3) := by decide +kernel
theorem d_C_lowestBelow_7 : decode prog_2_method_15_code 7 = .ok (.if_icmp .ge 30, 3) := by decide +kernel
theorem d_C_lowestBelow_10 : decode prog_2_method_15_code 10 = .ok (.aload_n 0, 1) := by decide +kernel
theorem d_C_lowestBelow_11 : decode prog_2_method_15_code 11 = .ok (.iload_n 1, 1) := by decide +kernel
theorem d_C_lowestBelow_12 : decode prog_2_method_15_code 12 = .ok (.iload_n 3, 1) := by decide +kernel
theorem d_C_lowestBelow_13 : decode prog_2_method_15_code 13 = .ok (.invokevirtual 67, 3) := by decide +kernel
theorem d_C_lowestBelow_16 : decode prog_2_method_15_code 16 = .ok (.ifCond .eq 15, 3) := by decide +kernel
theorem d_C_lowestBelow_19 : decode prog_2_method_15_code 19 = .ok (.aload_n 0, 1) := by decide +kernel
theorem d_C_lowestBelow_20 : decode prog_2_method_15_code 20 = .ok (.getfield 24, 3) := by decide +kernel
theorem d_C_lowestBelow_23 : decode prog_2_method_15_code 23 = .ok (.iload_n 3, 1) := by decide +kernel
theorem d_C_lowestBelow_24 : decode prog_2_method_15_code 24 = .ok (.iaload, 1) := by decide +kernel
theorem d_C_lowestBelow_25 : decode prog_2_method_15_code 25 = .ok (.iload_n 2, 1) := by decide +kernel
theorem d_C_lowestBelow_26 : decode prog_2_method_15_code 26 = .ok (.if_icmp .ne 5, 3) := by decide +kernel
theorem d_C_lowestBelow_29 : decode prog_2_method_15_code 29 = .ok (.iload_n 3, 1) := by decide +kernel
theorem d_C_lowestBelow_30 : decode prog_2_method_15_code 30 = .ok (.ireturn, 1) := by decide +kernel
theorem d_C_lowestBelow_31 : decode prog_2_method_15_code 31 = .ok (.iinc 3 1, 3) := by decide +kernel
theorem d_C_lowestBelow_34 : decode prog_2_method_15_code 34 = .ok (.goto (-32), 3) := by decide +kernel
theorem d_C_lowestBelow_37 : decode prog_2_method_15_code 37 = .ok (.iconst (-1), 1) := by decide +kernel
theorem d_C_lowestBelow_38 : decode prog_2_method_15_code 38 = .ok (.ireturn, 1) := by decide +kernel
theorem d_C_tellRing_0 : decode prog_2_method_12_code 0 = .ok (.aload_n 0, 1) := by decide +kernel
theorem d_C_tellRing_1 : decode prog_2_method_12_code 1 = .ok (.iload_n 1, 1) := by decide +kernel
theorem d_C_tellRing_2 : decode prog_2_method_12_code 2 = .ok (.invokevirtual 51, 3) := by decide +kernel
theorem d_C_tellRing_5 : decode prog_2_method_12_code 5 = .ok (.aload_n 0, 1) := by decide +kernel
theorem d_C_tellRing_6 : decode prog_2_method_12_code 6 = .ok (.getfield 24, 3) := by decide +kernel
theorem d_C_tellRing_9 : decode prog_2_method_12_code 9 = .ok (.iload_n 2, 1) := by decide +kernel
theorem d_C_tellRing_10 : decode prog_2_method_12_code 10 = .ok (.iaload, 1) := by decide +kernel
theorem d_C_tellRing_11 : decode prog_2_method_12_code 11 = .ok (.iconst (-1), 1) := by decide +kernel
theorem d_C_tellRing_12 : decode prog_2_method_12_code 12 = .ok (.if_icmp .ne 5, 3) := by decide +kernel
theorem d_C_tellRing_15 : decode prog_2_method_12_code 15 = .ok (.iconst 0, 1) := by decide +kernel
theorem d_C_tellRing_16 : decode prog_2_method_12_code 16 = .ok (.ireturn, 1) := by decide +kernel
theorem d_C_tellRing_17 : decode prog_2_method_12_code 17 = .ok (.aload_n 0, 1) := by decide +kernel
theorem d_C_tellRing_18 : decode prog_2_method_12_code 18 = .ok (.getfield 21, 3) := by decide +kernel
theorem d_C_tellRing_21 : decode prog_2_method_12_code 21 = .ok (.iconst 0, 1) := by decide +kernel
theorem d_C_tellRing_22 : decode prog_2_method_12_code 22 = .ok (.iload_n 1, 1) := by decide +kernel
theorem d_C_tellRing_23 : decode prog_2_method_12_code 23 = .ok (.iastore, 1) := by decide +kernel
theorem d_C_tellRing_24 : decode prog_2_method_12_code 24 = .ok (.aload_n 0, 1) := by decide +kernel
theorem d_C_tellRing_25 : decode prog_2_method_12_code 25 = .ok (.iconst 1, 1) := by decide +kernel
theorem d_C_tellRing_26 : decode prog_2_method_12_code 26 = .ok (.putfield 48, 3) := by decide +kernel
theorem d_C_tellRing_29 : decode prog_2_method_12_code 29 = .ok (.iload_n 2, 1) := by decide +kernel
theorem d_C_tellRing_30 : decode prog_2_method_12_code 30 = .ok (.istore_n 3, 1) := by decide +kernel
theorem d_C_tellRing_31 : decode prog_2_method_12_code 31 = .ok (.aload_n 0, 1) := by decide +kernel
theorem d_C_tellRing_32 : decode prog_2_method_12_code 32 = .ok (.getfield 24, 3) := by decide +kernel
theorem d_C_tellRing_35 : decode prog_2_method_12_code 35 = .ok (.iload_n 2, 1) := by decide +kernel
theorem d_C_tellRing_36 : decode prog_2_method_12_code 36 = .ok (.iaload, 1) := by decide +kernel
theorem d_C_tellRing_37 : decode prog_2_method_12_code 37 = .ok (.istore 4, 2) := by decide +kernel
theorem d_C_tellRing_39 : decode prog_2_method_12_code 39 = .ok (.iload 4, 2) := by decide +kernel
theorem d_C_tellRing_41 : decode prog_2_method_12_code 41 = .ok (.ifCond .le 44, 3) := by decide +kernel
theorem d_C_tellRing_44 : decode prog_2_method_12_code 44 = .ok (.iload_n 3, 1) := by decide +kernel
theorem d_C_tellRing_45 : decode prog_2_method_12_code 45 = .ok (.iconst (-1), 1) := by decide +kernel
theorem d_C_tellRing_46 : decode prog_2_method_12_code 46 = .ok (.if_icmp .eq 39, 3) := by decide +kernel
theorem d_C_tellRing_49 : decode prog_2_method_12_code 49 = .ok (.aload_n 0, 1) := by decide +kernel
theorem d_C_tellRing_50 : decode prog_2_method_12_code 50 = .ok (.getfield 21, 3) := by decide +kernel
theorem d_C_tellRing_53 : decode prog_2_method_12_code 53 = .ok (.aload_n 0, 1) := by decide +kernel
theorem d_C_tellRing_54 : decode prog_2_method_12_code 54 = .ok (.getfield 48, 3) := by decide +kernel
theorem d_C_tellRing_57 : decode prog_2_method_12_code 57 = .ok (.iload_n 3, 1) := by decide +kernel
theorem d_C_tellRing_58 : decode prog_2_method_12_code 58 = .ok (.iastore, 1) := by decide +kernel
theorem d_C_tellRing_59 : decode prog_2_method_12_code 59 = .ok (.aload_n 0, 1) := by decide +kernel
theorem d_C_tellRing_60 : decode prog_2_method_12_code 60 = .ok (.dup, 1) := by decide +kernel
theorem d_C_tellRing_61 : decode prog_2_method_12_code 61 = .ok (.getfield 48, 3) := by decide +kernel
theorem d_C_tellRing_64 : decode prog_2_method_12_code 64 = .ok (.iconst 1, 1) := by decide +kernel
theorem d_C_tellRing_65 : decode prog_2_method_12_code 65 = .ok (.iadd, 1) := by decide +kernel
theorem d_C_tellRing_66 : decode prog_2_method_12_code 66 = .ok (.putfield 48, 3) := by decide +kernel
theorem d_C_tellRing_69 : decode prog_2_method_12_code 69 = .ok (.aload_n 0, 1) := by decide +kernel
theorem d_C_tellRing_70 : decode prog_2_method_12_code 70 = .ok (.iload_n 3, 1) := by decide +kernel
theorem d_C_tellRing_71 : decode prog_2_method_12_code 71 = .ok (.iload 4, 2) := by decide +kernel
theorem d_C_tellRing_73 : decode prog_2_method_12_code 73 = .ok (.iconst 1, 1) := by decide +kernel
theorem d_C_tellRing_74 : decode prog_2_method_12_code 74 = .ok (.isub, 1) := by decide +kernel
theorem d_C_tellRing_75 : decode prog_2_method_12_code 75 = .ok (.invokevirtual 55, 3) := by decide +kernel
theorem d_C_tellRing_78 : decode prog_2_method_12_code 78 = .ok (.istore_n 3, 1) := by decide +kernel
theorem d_C_tellRing_79 : decode prog_2_method_12_code 79 = .ok (.iinc 4 (-1), 3) := by decide +kernel
theorem d_C_tellRing_82 : decode prog_2_method_12_code 82 = .ok (.goto (-43), 3) := by decide +kernel
theorem d_C_tellRing_85 : decode prog_2_method_12_code 85 = .ok (.iconst 1, 1) := by decide +kernel
theorem d_C_tellRing_86 : decode prog_2_method_12_code 86 = .ok (.ireturn, 1) := by decide +kernel
theorem d_C_setOther_0 : decode prog_2_method_8_code 0 = .ok (.aload_n 0, 1) := by decide +kernel
theorem d_C_setOther_1 : decode prog_2_method_8_code 1 = .ok (.getfield 15, 3) := by decide +kernel
theorem d_C_setOther_4 : decode prog_2_method_8_code 4 = .ok (.iload_n 1, 1) := by decide +kernel
theorem d_C_setOther_5 : decode prog_2_method_8_code 5 = .ok (.iaload, 1) := by decide +kernel
theorem d_C_setOther_6 : decode prog_2_method_8_code 6 = .ok (.istore 4, 2) := by decide +kernel
theorem d_C_setOther_8 : decode prog_2_method_8_code 8 = .ok (.aload_n 0, 1) := by decide +kernel
theorem d_C_setOther_9 : decode prog_2_method_8_code 9 = .ok (.getfield 15, 3) := by decide +kernel
theorem d_C_setOther_12 : decode prog_2_method_8_code 12 = .ok (.iload_n 1, 1) := by decide +kernel
theorem d_C_setOther_13 : decode prog_2_method_8_code 13 = .ok (.iload_n 3, 1) := by decide +kernel
theorem d_C_setOther_14 : decode prog_2_method_8_code 14 = .ok (.ifCond .eq 12, 3) := by decide +kernel
theorem d_C_setOther_17 : decode prog_2_method_8_code 17 = .ok (.iload 4, 2) := by decide +kernel
theorem d_C_setOther_19 : decode prog_2_method_8_code 19 = .ok (.iload_n 2, 1) := by decide +kernel
theorem d_C_setOther_20 : decode prog_2_method_8_code 20 = .ok (.invokestatic 31, 3) := by decide +kernel
theorem d_C_setOther_23 : decode prog_2_method_8_code 23 = .ok (.goto 9, 3) := by decide +kernel
theorem d_C_setOther_26 : decode prog_2_method_8_code 26 = .ok (.iload 4, 2) := by decide +kernel
theorem d_C_setOther_28 : decode prog_2_method_8_code 28 = .ok (.iload_n 2, 1) := by decide +kernel
theorem d_C_setOther_29 : decode prog_2_method_8_code 29 = .ok (.invokestatic 35, 3) := by decide +kernel
theorem d_C_setOther_32 : decode prog_2_method_8_code 32 = .ok (.iastore, 1) := by decide +kernel
theorem d_C_setOther_33 : decode prog_2_method_8_code 33 = .ok (.aload_n 0, 1) := by decide +kernel
theorem d_C_setOther_34 : decode prog_2_method_8_code 34 = .ok (.getfield 15, 3) := by decide +kernel
theorem d_C_setOther_37 : decode prog_2_method_8_code 37 = .ok (.iload_n 1, 1) := by decide +kernel
theorem d_C_setOther_38 : decode prog_2_method_8_code 38 = .ok (.iaload, 1) := by decide +kernel
theorem d_C_setOther_39 : decode prog_2_method_8_code 39 = .ok (.iload 4, 2) := by decide +kernel
theorem d_C_setOther_41 : decode prog_2_method_8_code 41 = .ok (.if_icmp .eq 7, 3) := by decide +kernel
theorem d_C_setOther_44 : decode prog_2_method_8_code 44 = .ok (.iconst 1, 1) := by decide +kernel
theorem d_C_setOther_45 : decode prog_2_method_8_code 45 = .ok (.goto 4, 3) := by decide +kernel
theorem d_C_setOther_48 : decode prog_2_method_8_code 48 = .ok (.iconst 0, 1) := by decide +kernel
theorem d_C_setOther_49 : decode prog_2_method_8_code 49 = .ok (.ireturn, 1) := by decide +kernel
theorem d_X_restsOn_0 : decode prog_1_method_7_code 0 = .ok (.aload_n 0, 1) := by decide +kernel
theorem d_X_restsOn_1 : decode prog_1_method_7_code 1 = .ok (.iload_n 1, 1) := by decide +kernel
theorem d_X_restsOn_2 : decode prog_1_method_7_code 2 = .ok (.invokevirtual 87, 3) := by decide +kernel
theorem d_X_restsOn_5 : decode prog_1_method_7_code 5 = .ok (.aload_n 0, 1) := by decide +kernel
theorem d_X_restsOn_6 : decode prog_1_method_7_code 6 = .ok (.iload_n 2, 1) := by decide +kernel
theorem d_X_restsOn_7 : decode prog_1_method_7_code 7 = .ok (.invokevirtual 87, 3) := by decide +kernel
theorem d_X_restsOn_10 : decode prog_1_method_7_code 10 = .ok (.aload_n 0, 1) := by decide +kernel
theorem d_X_restsOn_11 : decode prog_1_method_7_code 11 = .ok (.getfield 26, 3) := by decide +kernel
theorem d_X_restsOn_14 : decode prog_1_method_7_code 14 = .ok (.iload_n 1, 1) := by decide +kernel
theorem d_X_restsOn_15 : decode prog_1_method_7_code 15 = .ok (.iload_n 2, 1) := by decide +kernel
theorem d_X_restsOn_16 : decode prog_1_method_7_code 16 = .ok (.invokevirtual 97, 3) := by decide +kernel
theorem d_X_restsOn_19 : decode prog_1_method_7_code 19 = .ok (.ifCond .eq 5, 3) := by decide +kernel
theorem d_X_restsOn_22 : decode prog_1_method_7_code 22 = .ok (.iconst 0, 1) := by decide +kernel
theorem d_X_restsOn_23 : decode prog_1_method_7_code 23 = .ok (.ireturn, 1) := by decide +kernel
theorem d_X_restsOn_24 : decode prog_1_method_7_code 24 = .ok (.aload_n 0, 1) := by decide +kernel
theorem d_X_restsOn_25 : decode prog_1_method_7_code 25 = .ok (.getfield 26, 3) := by decide +kernel
theorem d_X_restsOn_28 : decode prog_1_method_7_code 28 = .ok (.iload_n 1, 1) := by decide +kernel
theorem d_X_restsOn_29 : decode prog_1_method_7_code 29 = .ok (.iload_n 2, 1) := by decide +kernel
theorem d_X_restsOn_30 : decode prog_1_method_7_code 30 = .ok (.invokevirtual 101, 3) := by decide +kernel
theorem d_X_restsOn_33 : decode prog_1_method_7_code 33 = .ok (.ifCond .eq 5, 3) := by decide +kernel
theorem d_X_restsOn_36 : decode prog_1_method_7_code 36 = .ok (.iconst (-1), 1) := by decide +kernel
theorem d_X_restsOn_37 : decode prog_1_method_7_code 37 = .ok (.ireturn, 1) := by decide +kernel
theorem d_X_restsOn_38 : decode prog_1_method_7_code 38 = .ok (.aload_n 0, 1) := by decide +kernel
theorem d_X_restsOn_39 : decode prog_1_method_7_code 39 = .ok (.getfield 26, 3) := by decide +kernel
theorem d_X_restsOn_42 : decode prog_1_method_7_code 42 = .ok (.iload_n 1, 1) := by decide +kernel
theorem d_X_restsOn_43 : decode prog_1_method_7_code 43 = .ok (.iload_n 2, 1) := by decide +kernel
theorem d_X_restsOn_44 : decode prog_1_method_7_code 44 = .ok (.iconst 1, 1) := by decide +kernel
theorem d_X_restsOn_45 : decode prog_1_method_7_code 45 = .ok (.invokevirtual 104, 3) := by decide +kernel
theorem d_X_restsOn_48 : decode prog_1_method_7_code 48 = .ok (.pop, 1) := by decide +kernel
theorem d_X_restsOn_49 : decode prog_1_method_7_code 49 = .ok (.iconst 1, 1) := by decide +kernel
theorem d_X_restsOn_50 : decode prog_1_method_7_code 50 = .ok (.ireturn, 1) := by decide +kernel
theorem d_X_requirePlace_0 : decode prog_1_method_25_code 0 = .ok (.iload_n 0, 1) := by decide +kernel
theorem d_X_requirePlace_1 : decode prog_1_method_25_code 1 = .ok (.ifCond .ge 13, 3) := by decide +kernel
theorem d_X_requirePlace_4 : decode prog_1_method_25_code 4 = .ok (.new 165, 3) := by decide +kernel
theorem d_X_requirePlace_7 : decode prog_1_method_25_code 7 = .ok (.dup, 1) := by decide +kernel
theorem d_X_requirePlace_8 : decode prog_1_method_25_code 8 = .ok (.ldc 197, 2) := by decide +kernel
theorem d_X_requirePlace_10 : decode prog_1_method_25_code 10 = .ok (.invokespecial 169, 3) := by decide +kernel
theorem d_X_requirePlace_13 : decode prog_1_method_25_code 13 = .ok (.athrow, 1) := by decide +kernel
theorem d_X_requirePlace_14 : decode prog_1_method_25_code 14 = .ok (.return_, 1) := by decide +kernel
theorem d_C_ringPlace_0 : decode prog_2_method_11_code 0 = .ok (.iload_n 1, 1) := by decide +kernel
theorem d_C_ringPlace_1 : decode prog_2_method_11_code 1 = .ok (.ifCond .lt 20, 3) := by decide +kernel
theorem d_C_ringPlace_4 : decode prog_2_method_11_code 4 = .ok (.iload_n 1, 1) := by decide +kernel
theorem d_C_ringPlace_5 : decode prog_2_method_11_code 5 = .ok (.aload_n 0, 1) := by decide +kernel
theorem d_C_ringPlace_6 : decode prog_2_method_11_code 6 = .ok (.getfield 48, 3) := by decide +kernel
theorem d_C_ringPlace_9 : decode prog_2_method_11_code 9 = .ok (.if_icmp .ge 12, 3) := by decide +kernel
theorem d_C_ringPlace_12 : decode prog_2_method_11_code 12 = .ok (.aload_n 0, 1) := by decide +kernel
theorem d_C_ringPlace_13 : decode prog_2_method_11_code 13 = .ok (.getfield 21, 3) := by decide +kernel
theorem d_C_ringPlace_16 : decode prog_2_method_11_code 16 = .ok (.iload_n 1, 1) := by decide +kernel
theorem d_C_ringPlace_17 : decode prog_2_method_11_code 17 = .ok (.iaload, 1) := by decide +kernel
theorem d_C_ringPlace_18 : decode prog_2_method_11_code 18 = .ok (.goto 4, 3) := by decide +kernel
theorem d_C_ringPlace_21 : decode prog_2_method_11_code 21 = .ok (.iconst (-1), 1) := by decide +kernel
theorem d_C_ringPlace_22 : decode prog_2_method_11_code 22 = .ok (.ireturn, 1) := by decide +kernel
theorem d_X_ring_0 : decode prog_1_method_8_code 0 = .ok (.iload_n 1, 1) := by decide +kernel
theorem d_X_ring_1 : decode prog_1_method_8_code 1 = .ok (.invokestatic 107, 3) := by decide +kernel
theorem d_X_ring_4 : decode prog_1_method_8_code 4 = .ok (.aload_n 0, 1) := by decide +kernel
theorem d_X_ring_5 : decode prog_1_method_8_code 5 = .ok (.getfield 26, 3) := by decide +kernel
theorem d_X_ring_8 : decode prog_1_method_8_code 8 = .ok (.iload_n 1, 1) := by decide +kernel
theorem d_X_ring_9 : decode prog_1_method_8_code 9 = .ok (.invokevirtual 110, 3) := by decide +kernel
theorem d_X_ring_12 : decode prog_1_method_8_code 12 = .ok (.ireturn, 1) := by decide +kernel
theorem d_X_lift_0 : decode prog_1_method_9_code 0 = .ok (.aload_n 0, 1) := by decide +kernel
theorem d_X_lift_1 : decode prog_1_method_9_code 1 = .ok (.iload_n 1, 1) := by decide +kernel
theorem d_X_lift_2 : decode prog_1_method_9_code 2 = .ok (.invokevirtual 87, 3) := by decide +kernel
theorem d_X_lift_5 : decode prog_1_method_9_code 5 = .ok (.aload_n 0, 1) := by decide +kernel
theorem d_X_lift_6 : decode prog_1_method_9_code 6 = .ok (.iload_n 2, 1) := by decide +kernel
theorem d_X_lift_7 : decode prog_1_method_9_code 7 = .ok (.invokevirtual 87, 3) := by decide +kernel
theorem d_X_lift_10 : decode prog_1_method_9_code 10 = .ok (.aload_n 0, 1) := by decide +kernel
theorem d_X_lift_11 : decode prog_1_method_9_code 11 = .ok (.getfield 26, 3) := by decide +kernel
theorem d_X_lift_14 : decode prog_1_method_9_code 14 = .ok (.iload_n 1, 1) := by decide +kernel
theorem d_X_lift_15 : decode prog_1_method_9_code 15 = .ok (.iload_n 2, 1) := by decide +kernel
theorem d_X_lift_16 : decode prog_1_method_9_code 16 = .ok (.iconst 0, 1) := by decide +kernel
theorem d_X_lift_17 : decode prog_1_method_9_code 17 = .ok (.invokevirtual 104, 3) := by decide +kernel
theorem d_X_lift_20 : decode prog_1_method_9_code 20 = .ok (.ireturn, 1) := by decide +kernel
theorem d_S_setWithdrawal_0 : decode prog_4_method_6_code 0 = .ok (.aload_n 0, 1) := by decide +kernel
theorem d_S_setWithdrawal_1 : decode prog_4_method_6_code 1 = .ok (.getfield 18, 3) := by decide +kernel
theorem d_S_setWithdrawal_4 : decode prog_4_method_6_code 4 = .ok (.iload_n 1, 1) := by decide +kernel
theorem d_S_setWithdrawal_5 : decode prog_4_method_6_code 5 = .ok (.iaload, 1) := by decide +kernel
theorem d_S_setWithdrawal_6 : decode prog_4_method_6_code 6 = .ok (.istore_n 3, 1) := by decide +kernel
theorem d_S_setWithdrawal_7 : decode prog_4_method_6_code 7 = .ok (.aload_n 0, 1) := by decide +kernel
theorem d_S_setWithdrawal_8 : decode prog_4_method_6_code 8 = .ok (.getfield 18, 3) := by decide +kernel
theorem d_S_setWithdrawal_11 : decode prog_4_method_6_code 11 = .ok (.iload_n 1, 1) := by decide +kernel
theorem d_S_setWithdrawal_12 : decode prog_4_method_6_code 12 = .ok (.iload_n 2, 1) := by decide +kernel
theorem d_S_setWithdrawal_13 : decode prog_4_method_6_code 13 = .ok (.iastore, 1) := by decide +kernel
theorem d_S_setWithdrawal_14 : decode prog_4_method_6_code 14 = .ok (.iload_n 3, 1) := by decide +kernel
theorem d_S_setWithdrawal_15 : decode prog_4_method_6_code 15 = .ok (.ireturn, 1) := by decide +kernel
theorem d_X_withdraw_0 : decode prog_1_method_10_code 0 = .ok (.aload_n 0, 1) := by decide +kernel
theorem d_X_withdraw_1 : decode prog_1_method_10_code 1 = .ok (.iload_n 1, 1) := by decide +kernel
theorem d_X_withdraw_2 : decode prog_1_method_10_code 2 = .ok (.invokevirtual 90, 3) := by decide +kernel
theorem d_X_withdraw_5 : decode prog_1_method_10_code 5 = .ok (.iload_n 2, 1) := by decide +kernel
theorem d_X_withdraw_6 : decode prog_1_method_10_code 6 = .ok (.iconst (-1), 1) := by decide +kernel
theorem d_X_withdraw_7 : decode prog_1_method_10_code 7 = .ok (.if_icmp .eq 7, 3) := by decide +kernel
theorem d_X_withdraw_10 : decode prog_1_method_10_code 10 = .ok (.iload_n 2, 1) := by decide +kernel
theorem d_X_withdraw_11 : decode prog_1_method_10_code 11 = .ok (.invokestatic 66, 3) := by decide +kernel
theorem d_X_withdraw_14 : decode prog_1_method_10_code 14 = .ok (.aload_n 0, 1) := by decide +kernel
theorem d_X_withdraw_15 : decode prog_1_method_10_code 15 = .ok (.getfield 19, 3) := by decide +kernel
theorem d_X_withdraw_18 : decode prog_1_method_10_code 18 = .ok (.iload_n 1, 1) := by decide +kernel
theorem d_X_withdraw_19 : decode prog_1_method_10_code 19 = .ok (.iload_n 2, 1) := by decide +kernel
theorem d_X_withdraw_20 : decode prog_1_method_10_code 20 = .ok (.invokevirtual 113, 3) := by decide +kernel
theorem d_X_withdraw_23 : decode prog_1_method_10_code 23 = .ok (.ireturn, 1) := by decide +kernel
theorem d_X_requirePerson_0 : decode prog_1_method_23_code 0 = .ok (.iload_n 0, 1) := by decide +kernel
theorem d_X_requirePerson_1 : decode prog_1_method_23_code 1 = .ok (.iconst 0, 1) := by decide +kernel
theorem d_X_requirePerson_2 : decode prog_1_method_23_code 2 = .ok (.bipush 31, 2) := by decide +kernel
theorem d_X_requirePerson_4 : decode prog_1_method_23_code 4 = .ok (.invokestatic 37, 3) := by decide +kernel
theorem d_X_requirePerson_7 : decode prog_1_method_23_code 7 = .ok (.ifCond .ne 13, 3) := by decide +kernel
theorem d_X_requirePerson_10 : decode prog_1_method_23_code 10 = .ok (.new 165, 3) := by decide +kernel
theorem d_X_requirePerson_13 : decode prog_1_method_23_code 13 = .ok (.dup, 1) := by decide +kernel
theorem d_X_requirePerson_14 : decode prog_1_method_23_code 14 = .ok (.ldc 193, 2) := by decide +kernel
theorem d_X_requirePerson_16 : decode prog_1_method_23_code 16 = .ok (.invokespecial 169, 3) := by decide +kernel
theorem d_X_requirePerson_19 : decode prog_1_method_23_code 19 = .ok (.athrow, 1) := by decide +kernel
theorem d_X_requirePerson_20 : decode prog_1_method_23_code 20 = .ok (.return_, 1) := by decide +kernel
theorem d_O_find_0 : decode prog_3_method_3_code 0 = .ok (.iconst 0, 1) := by decide +kernel
theorem d_O_find_1 : decode prog_3_method_3_code 1 = .ok (.istore 4, 2) := by decide +kernel
theorem d_O_find_3 : decode prog_3_method_3_code 3 = .ok (.iload 4, 2) := by decide +kernel
theorem d_O_find_5 : decode prog_3_method_3_code 5 = .ok (.aload_n 0, 1) := by decide +kernel
theorem d_O_find_6 : decode prog_3_method_3_code 6 = .ok (.getfield 33, 3) := by decide +kernel
theorem d_O_find_9 : decode prog_3_method_3_code 9 = .ok (.if_icmp .ge 45, 3) := by decide +kernel
theorem d_O_find_12 : decode prog_3_method_3_code 12 = .ok (.aload_n 0, 1) := by decide +kernel
theorem d_O_find_13 : decode prog_3_method_3_code 13 = .ok (.getfield 9, 3) := by decide +kernel
theorem d_O_find_16 : decode prog_3_method_3_code 16 = .ok (.iload 4, 2) := by decide +kernel
theorem d_O_find_18 : decode prog_3_method_3_code 18 = .ok (.iaload, 1) := by decide +kernel
theorem d_O_find_19 : decode prog_3_method_3_code 19 = .ok (.iload_n 1, 1) := by decide +kernel
theorem d_O_find_20 : decode prog_3_method_3_code 20 = .ok (.if_icmp .ne 28, 3) := by decide +kernel
theorem d_O_find_23 : decode prog_3_method_3_code 23 = .ok (.aload_n 0, 1) := by decide +kernel
theorem d_O_find_24 : decode prog_3_method_3_code 24 = .ok (.getfield 15, 3) := by decide +kernel
theorem d_O_find_27 : decode prog_3_method_3_code 27 = .ok (.iload 4, 2) := by decide +kernel
theorem d_O_find_29 : decode prog_3_method_3_code 29 = .ok (.iaload, 1) := by decide +kernel
theorem d_O_find_30 : decode prog_3_method_3_code 30 = .ok (.iload_n 2, 1) := by decide +kernel
theorem d_O_find_31 : decode prog_3_method_3_code 31 = .ok (.if_icmp .ne 17, 3) := by decide +kernel
theorem d_O_find_34 : decode prog_3_method_3_code 34 = .ok (.aload_n 0, 1) := by decide +kernel
theorem d_O_find_35 : decode prog_3_method_3_code 35 = .ok (.getfield 18, 3) := by decide +kernel
theorem d_O_find_38 : decode prog_3_method_3_code 38 = .ok (.iload 4, 2) := by decide +kernel
theorem d_O_find_40 : decode prog_3_method_3_code 40 = .ok (.iaload, 1) := by decide +kernel
theorem d_O_find_41 : decode prog_3_method_3_code 41 = .ok (.iload_n 3, 1) := by decide +kernel
theorem d_O_find_42 : decode prog_3_method_3_code 42 = .ok (.if_icmp .ne 6, 3) := by decide +kernel
theorem d_O_find_45 : decode prog_3_method_3_code 45 = .ok (.iload 4, 2) := by decide +kernel
theorem d_O_find_47 : decode prog_3_method_3_code 47 = .ok (.ireturn, 1) := by decide +kernel
theorem d_O_find_48 : decode prog_3_method_3_code 48 = .ok (.iinc 4 1, 3) := by decide +kernel
theorem d_O_find_51 : decode prog_3_method_3_code 51 = .ok (.goto (-48), 3) := by decide +kernel
theorem d_O_find_54 : decode prog_3_method_3_code 54 = .ok (.iconst (-1), 1) := by decide +kernel
theorem d_O_find_55 : decode prog_3_method_3_code 55 = .ok (.ireturn, 1) := by decide +kernel
theorem d_O_made_0 : decode prog_3_method_2_code 0 = .ok (.aload_n 0, 1) := by decide +kernel
theorem d_O_made_1 : decode prog_3_method_2_code 1 = .ok (.getfield 33, 3) := by decide +kernel
theorem d_O_made_4 : decode prog_3_method_2_code 4 = .ok (.ireturn, 1) := by decide +kernel
theorem d_O_add_0 : decode prog_3_method_4_code 0 = .ok (.aload_n 0, 1) := by decide +kernel
theorem d_O_add_1 : decode prog_3_method_4_code 1 = .ok (.getfield 33, 3) := by decide +kernel
theorem d_O_add_4 : decode prog_3_method_4_code 4 = .ok (.istore 4, 2) := by decide +kernel
theorem d_O_add_6 : decode prog_3_method_4_code 6 = .ok (.aload_n 0, 1) := by decide +kernel
theorem d_O_add_7 : decode prog_3_method_4_code 7 = .ok (.getfield 9, 3) := by decide +kernel
theorem d_O_add_10 : decode prog_3_method_4_code 10 = .ok (.iload 4, 2) := by decide +kernel
theorem d_O_add_12 : decode prog_3_method_4_code 12 = .ok (.iload_n 1, 1) := by decide +kernel
theorem d_O_add_13 : decode prog_3_method_4_code 13 = .ok (.iastore, 1) := by decide +kernel
theorem d_O_add_14 : decode prog_3_method_4_code 14 = .ok (.aload_n 0, 1) := by decide +kernel
theorem d_O_add_15 : decode prog_3_method_4_code 15 = .ok (.getfield 15, 3) := by decide +kernel
theorem d_O_add_18 : decode prog_3_method_4_code 18 = .ok (.iload 4, 2) := by decide +kernel
theorem d_O_add_20 : decode prog_3_method_4_code 20 = .ok (.iload_n 2, 1) := by decide +kernel
theorem d_O_add_21 : decode prog_3_method_4_code 21 = .ok (.iastore, 1) := by decide +kernel
theorem d_O_add_22 : decode prog_3_method_4_code 22 = .ok (.aload_n 0, 1) := by decide +kernel
theorem d_O_add_23 : decode prog_3_method_4_code 23 = .ok (.getfield 18, 3) := by decide +kernel
theorem d_O_add_26 : decode prog_3_method_4_code 26 = .ok (.iload 4, 2) := by decide +kernel
theorem d_O_add_28 : decode prog_3_method_4_code 28 = .ok (.iload_n 3, 1) := by decide +kernel
theorem d_O_add_29 : decode prog_3_method_4_code 29 = .ok (.iastore, 1) := by decide +kernel
theorem d_O_add_30 : decode prog_3_method_4_code 30 = .ok (.aload_n 0, 1) := by decide +kernel
theorem d_O_add_31 : decode prog_3_method_4_code 31 = .ok (.dup, 1) := by decide +kernel
theorem d_O_add_32 : decode prog_3_method_4_code 32 = .ok (.getfield 33, 3) := by decide +kernel
theorem d_O_add_35 : decode prog_3_method_4_code 35 = .ok (.iconst 1, 1) := by decide +kernel
theorem d_O_add_36 : decode prog_3_method_4_code 36 = .ok (.iadd, 1) := by decide +kernel
theorem d_O_add_37 : decode prog_3_method_4_code 37 = .ok (.putfield 33, 3) := by decide +kernel
theorem d_O_add_40 : decode prog_3_method_4_code 40 = .ok (.iload 4, 2) := by decide +kernel
theorem d_O_add_42 : decode prog_3_method_4_code 42 = .ok (.ireturn, 1) := by decide +kernel
theorem d_O_say_0 : decode prog_3_method_5_code 0 = .ok (.aload_n 0, 1) := by decide +kernel
theorem d_O_say_1 : decode prog_3_method_5_code 1 = .ok (.getfield 21, 3) := by decide +kernel
theorem d_O_say_4 : decode prog_3_method_5_code 4 = .ok (.iload_n 1, 1) := by decide +kernel
theorem d_O_say_5 : decode prog_3_method_5_code 5 = .ok (.iload_n 2, 1) := by decide +kernel
theorem d_O_say_6 : decode prog_3_method_5_code 6 = .ok (.iastore, 1) := by decide +kernel
theorem d_O_say_7 : decode prog_3_method_5_code 7 = .ok (.aload_n 0, 1) := by decide +kernel
theorem d_O_say_8 : decode prog_3_method_5_code 8 = .ok (.getfield 24, 3) := by decide +kernel
theorem d_O_say_11 : decode prog_3_method_5_code 11 = .ok (.iload_n 1, 1) := by decide +kernel
theorem d_O_say_12 : decode prog_3_method_5_code 12 = .ok (.iload_n 3, 1) := by decide +kernel
theorem d_O_say_13 : decode prog_3_method_5_code 13 = .ok (.iastore, 1) := by decide +kernel
theorem d_O_say_14 : decode prog_3_method_5_code 14 = .ok (.return_, 1) := by decide +kernel
theorem d_O_numberOf_0 : decode prog_3_method_6_code 0 = .ok (.iconst 0, 1) := by decide +kernel
theorem d_O_numberOf_1 : decode prog_3_method_6_code 1 = .ok (.istore_n 2, 1) := by decide +kernel
theorem d_O_numberOf_2 : decode prog_3_method_6_code 2 = .ok (.iconst 0, 1) := by decide +kernel
theorem d_O_numberOf_3 : decode prog_3_method_6_code 3 = .ok (.istore_n 3, 1) := by decide +kernel
theorem d_O_numberOf_4 : decode prog_3_method_6_code 4 = .ok (.iload_n 3, 1) := by decide +kernel
theorem d_O_numberOf_5 : decode prog_3_method_6_code 5 = .ok (.aload_n 0, 1) := by decide +kernel
theorem d_O_numberOf_6 : decode prog_3_method_6_code 6 = .ok (.getfield 33, 3) := by decide +kernel
theorem d_O_numberOf_9 : decode prog_3_method_6_code 9 = .ok (.if_icmp .ge 22, 3) := by decide +kernel
theorem d_O_numberOf_12 : decode prog_3_method_6_code 12 = .ok (.aload_n 0, 1) := by decide +kernel
theorem d_O_numberOf_13 : decode prog_3_method_6_code 13 = .ok (.getfield 15, 3) := by decide +kernel
theorem d_O_numberOf_16 : decode prog_3_method_6_code 16 = .ok (.iload_n 3, 1) := by decide +kernel
theorem d_O_numberOf_17 : decode prog_3_method_6_code 17 = .ok (.iaload, 1) := by decide +kernel
theorem d_O_numberOf_18 : decode prog_3_method_6_code 18 = .ok (.iload_n 1, 1) := by decide +kernel
theorem d_O_numberOf_19 : decode prog_3_method_6_code 19 = .ok (.if_icmp .ne 6, 3) := by decide +kernel
theorem d_O_numberOf_22 : decode prog_3_method_6_code 22 = .ok (.iinc 2 1, 3) := by decide +kernel
theorem d_O_numberOf_25 : decode prog_3_method_6_code 25 = .ok (.iinc 3 1, 3) := by decide +kernel
theorem d_O_numberOf_28 : decode prog_3_method_6_code 28 = .ok (.goto (-24), 3) := by decide +kernel
theorem d_O_numberOf_31 : decode prog_3_method_6_code 31 = .ok (.iload_n 2, 1) := by decide +kernel
theorem d_O_numberOf_32 : decode prog_3_method_6_code 32 = .ok (.ireturn, 1) := by decide +kernel
theorem d_X_opinion_0 : decode prog_1_method_11_code 0 = .ok (.iload_n 1, 1) := by decide +kernel
theorem d_X_opinion_1 : decode prog_1_method_11_code 1 = .ok (.invokestatic 116, 3) := by decide +kernel
theorem d_X_opinion_4 : decode prog_1_method_11_code 4 = .ok (.aload_n 0, 1) := by decide +kernel
theorem d_X_opinion_5 : decode prog_1_method_11_code 5 = .ok (.iload_n 2, 1) := by decide +kernel
theorem d_X_opinion_6 : decode prog_1_method_11_code 6 = .ok (.invokevirtual 87, 3) := by decide +kernel
theorem d_X_opinion_9 : decode prog_1_method_11_code 9 = .ok (.iload_n 3, 1) := by decide +kernel
theorem d_X_opinion_10 : decode prog_1_method_11_code 10 = .ok (.iconst 0, 1) := by decide +kernel
theorem d_X_opinion_11 : decode prog_1_method_11_code 11 = .ok (.bipush 99, 2) := by decide +kernel
theorem d_X_opinion_13 : decode prog_1_method_11_code 13 = .ok (.invokestatic 37, 3) := by decide +kernel
theorem d_X_opinion_16 : decode prog_1_method_11_code 16 = .ok (.ifCond .ne 13, 3) := by decide +kernel
theorem d_X_opinion_19 : decode prog_1_method_11_code 19 = .ok (.new 41, 3) := by decide +kernel
theorem d_X_opinion_22 : decode prog_1_method_11_code 22 = .ok (.dup, 1) := by decide +kernel
theorem d_X_opinion_23 : decode prog_1_method_11_code 23 = .ok (.ldc 119, 2) := by decide +kernel
theorem d_X_opinion_25 : decode prog_1_method_11_code 25 = .ok (.invokespecial 45, 3) := by decide +kernel
theorem d_X_opinion_28 : decode prog_1_method_11_code 28 = .ok (.athrow, 1) := by decide +kernel
theorem d_X_opinion_29 : decode prog_1_method_11_code 29 = .ok (.iload 4, 2) := by decide +kernel
theorem d_X_opinion_31 : decode prog_1_method_11_code 31 = .ok (.invokestatic 66, 3) := by decide +kernel
theorem d_X_opinion_34 : decode prog_1_method_11_code 34 = .ok (.iload 5, 2) := by decide +kernel
theorem d_X_opinion_36 : decode prog_1_method_11_code 36 = .ok (.iconst 0, 1) := by decide +kernel
theorem d_X_opinion_37 : decode prog_1_method_11_code 37 = .ok (.bipush 9, 2) := by decide +kernel
theorem d_X_opinion_39 : decode prog_1_method_11_code 39 = .ok (.invokestatic 37, 3) := by decide +kernel
theorem d_X_opinion_42 : decode prog_1_method_11_code 42 = .ok (.ifCond .ne 13, 3) := by decide +kernel
theorem d_X_opinion_45 : decode prog_1_method_11_code 45 = .ok (.new 41, 3) := by decide +kernel
theorem d_X_opinion_48 : decode prog_1_method_11_code 48 = .ok (.dup, 1) := by decide +kernel
theorem d_X_opinion_49 : decode prog_1_method_11_code 49 = .ok (.ldc 121, 2) := by decide +kernel
theorem d_X_opinion_51 : decode prog_1_method_11_code 51 = .ok (.invokespecial 45, 3) := by decide +kernel
theorem d_X_opinion_54 : decode prog_1_method_11_code 54 = .ok (.athrow, 1) := by decide +kernel
theorem d_X_opinion_55 : decode prog_1_method_11_code 55 = .ok (.aload_n 0, 1) := by decide +kernel
theorem d_X_opinion_56 : decode prog_1_method_11_code 56 = .ok (.getfield 33, 3) := by decide +kernel
theorem d_X_opinion_59 : decode prog_1_method_11_code 59 = .ok (.iload_n 1, 1) := by decide +kernel
theorem d_X_opinion_60 : decode prog_1_method_11_code 60 = .ok (.iload_n 2, 1) := by decide +kernel
theorem d_X_opinion_61 : decode prog_1_method_11_code 61 = .ok (.iload 4, 2) := by decide +kernel
theorem d_X_opinion_63 : decode prog_1_method_11_code 63 = .ok (.invokevirtual 123, 3) := by decide +kernel
theorem d_X_opinion_66 : decode prog_1_method_11_code 66 = .ok (.istore 6, 2) := by decide +kernel
theorem d_X_opinion_68 : decode prog_1_method_11_code 68 = .ok (.iload 6, 2) := by decide +kernel
theorem d_X_opinion_70 : decode prog_1_method_11_code 70 = .ok (.iconst (-1), 1) := by decide +kernel
theorem d_X_opinion_71 : decode prog_1_method_11_code 71 = .ok (.if_icmp .ne 39, 3) := by decide +kernel
theorem d_X_opinion_74 : decode prog_1_method_11_code 74 = .ok (.aload_n 0, 1) := by decide +kernel
theorem d_X_opinion_75 : decode prog_1_method_11_code 75 = .ok (.getfield 33, 3) := by decide +kernel
theorem d_X_opinion_78 : decode prog_1_method_11_code 78 = .ok (.invokevirtual 127, 3) := by decide +kernel
theorem d_X_opinion_81 : decode prog_1_method_11_code 81 = .ok (.sipush 300, 3) := by decide +kernel
theorem d_X_opinion_84 : decode prog_1_method_11_code 84 = .ok (.if_icmp .lt 13, 3) := by decide +kernel
theorem d_X_opinion_87 : decode prog_1_method_11_code 87 = .ok (.new 52, 3) := by decide +kernel
theorem d_X_opinion_90 : decode prog_1_method_11_code 90 = .ok (.dup, 1) := by decide +kernel
theorem d_X_opinion_91 : decode prog_1_method_11_code 91 = .ok (.ldc 128, 2) := by decide +kernel
theorem d_X_opinion_93 : decode prog_1_method_11_code 93 = .ok (.invokespecial 56, 3) := by decide +kernel
theorem d_X_opinion_96 : decode prog_1_method_11_code 96 = .ok (.athrow, 1) := by decide +kernel
theorem d_X_opinion_97 : decode prog_1_method_11_code 97 = .ok (.aload_n 0, 1) := by decide +kernel
theorem d_X_opinion_98 : decode prog_1_method_11_code 98 = .ok (.getfield 33, 3) := by decide +kernel
theorem d_X_opinion_101 : decode prog_1_method_11_code 101 = .ok (.iload_n 1, 1) := by decide +kernel
theorem d_X_opinion_102 : decode prog_1_method_11_code 102 = .ok (.iload_n 2, 1) := by decide +kernel
theorem d_X_opinion_103 : decode prog_1_method_11_code 103 = .ok (.iload 4, 2) := by decide +kernel
theorem d_X_opinion_105 : decode prog_1_method_11_code 105 = .ok (.invokevirtual 130, 3) := by decide +kernel
theorem d_X_opinion_108 : decode prog_1_method_11_code 108 = .ok (.istore 6, 2) := by decide +kernel
theorem d_X_opinion_110 : decode prog_1_method_11_code 110 = .ok (.aload_n 0, 1) := by decide +kernel
theorem d_X_opinion_111 : decode prog_1_method_11_code 111 = .ok (.getfield 33, 3) := by decide +kernel
theorem d_X_opinion_114 : decode prog_1_method_11_code 114 = .ok (.iload 6, 2) := by decide +kernel
theorem d_X_opinion_116 : decode prog_1_method_11_code 116 = .ok (.iload_n 3, 1) := by decide +kernel
theorem d_X_opinion_117 : decode prog_1_method_11_code 117 = .ok (.iload 5, 2) := by decide +kernel
theorem d_X_opinion_119 : decode prog_1_method_11_code 119 = .ok (.invokevirtual 132, 3) := by decide +kernel
theorem d_X_opinion_122 : decode prog_1_method_11_code 122 = .ok (.aload_n 0, 1) := by decide +kernel
theorem d_X_opinion_123 : decode prog_1_method_11_code 123 = .ok (.getfield 33, 3) := by decide +kernel
theorem d_X_opinion_126 : decode prog_1_method_11_code 126 = .ok (.iload_n 2, 1) := by decide +kernel
theorem d_X_opinion_127 : decode prog_1_method_11_code 127 = .ok (.invokevirtual 136, 3) := by decide +kernel
theorem d_X_opinion_130 : decode prog_1_method_11_code 130 = .ok (.ireturn, 1) := by decide +kernel
theorem d_C_setRule_0 : decode prog_2_method_5_code 0 = .ok (.aload_n 0, 1) := by decide +kernel
theorem d_C_setRule_1 : decode prog_2_method_5_code 1 = .ok (.getfield 18, 3) := by decide +kernel
theorem d_C_setRule_4 : decode prog_2_method_5_code 4 = .ok (.iload_n 1, 1) := by decide +kernel
theorem d_C_setRule_5 : decode prog_2_method_5_code 5 = .ok (.iaload, 1) := by decide +kernel
theorem d_C_setRule_6 : decode prog_2_method_5_code 6 = .ok (.istore_n 3, 1) := by decide +kernel
theorem d_C_setRule_7 : decode prog_2_method_5_code 7 = .ok (.aload_n 0, 1) := by decide +kernel
theorem d_C_setRule_8 : decode prog_2_method_5_code 8 = .ok (.getfield 18, 3) := by decide +kernel
theorem d_C_setRule_11 : decode prog_2_method_5_code 11 = .ok (.iload_n 1, 1) := by decide +kernel
theorem d_C_setRule_12 : decode prog_2_method_5_code 12 = .ok (.iload_n 2, 1) := by decide +kernel
theorem d_C_setRule_13 : decode prog_2_method_5_code 13 = .ok (.iastore, 1) := by decide +kernel
theorem d_C_setRule_14 : decode prog_2_method_5_code 14 = .ok (.iload_n 3, 1) := by decide +kernel
theorem d_C_setRule_15 : decode prog_2_method_5_code 15 = .ok (.ireturn, 1) := by decide +kernel
theorem d_X_rule_0 : decode prog_1_method_12_code 0 = .ok (.aload_n 0, 1) := by decide +kernel
theorem d_X_rule_1 : decode prog_1_method_12_code 1 = .ok (.iload_n 1, 1) := by decide +kernel
theorem d_X_rule_2 : decode prog_1_method_12_code 2 = .ok (.invokevirtual 87, 3) := by decide +kernel
theorem d_X_rule_5 : decode prog_1_method_12_code 5 = .ok (.iload_n 2, 1) := by decide +kernel
theorem d_X_rule_6 : decode prog_1_method_12_code 6 = .ok (.iconst 0, 1) := by decide +kernel
theorem d_X_rule_7 : decode prog_1_method_12_code 7 = .ok (.iconst 2, 1) := by decide +kernel
theorem d_X_rule_8 : decode prog_1_method_12_code 8 = .ok (.invokestatic 37, 3) := by decide +kernel
theorem d_X_rule_11 : decode prog_1_method_12_code 11 = .ok (.ifCond .ne 13, 3) := by decide +kernel
theorem d_X_rule_14 : decode prog_1_method_12_code 14 = .ok (.new 41, 3) := by decide +kernel
theorem d_X_rule_17 : decode prog_1_method_12_code 17 = .ok (.dup, 1) := by decide +kernel
theorem d_X_rule_18 : decode prog_1_method_12_code 18 = .ok (.ldc 139, 2) := by decide +kernel
theorem d_X_rule_20 : decode prog_1_method_12_code 20 = .ok (.invokespecial 45, 3) := by decide +kernel
theorem d_X_rule_23 : decode prog_1_method_12_code 23 = .ok (.athrow, 1) := by decide +kernel
theorem d_X_rule_24 : decode prog_1_method_12_code 24 = .ok (.aload_n 0, 1) := by decide +kernel
theorem d_X_rule_25 : decode prog_1_method_12_code 25 = .ok (.getfield 26, 3) := by decide +kernel
theorem d_X_rule_28 : decode prog_1_method_12_code 28 = .ok (.iload_n 1, 1) := by decide +kernel
theorem d_X_rule_29 : decode prog_1_method_12_code 29 = .ok (.iload_n 2, 1) := by decide +kernel
theorem d_X_rule_30 : decode prog_1_method_12_code 30 = .ok (.invokevirtual 141, 3) := by decide +kernel
theorem d_X_rule_33 : decode prog_1_method_12_code 33 = .ok (.ireturn, 1) := by decide +kernel
theorem d_O_learn_0 : decode prog_3_method_7_code 0 = .ok (.aload_n 0, 1) := by decide +kernel
theorem d_O_learn_1 : decode prog_3_method_7_code 1 = .ok (.getfield 27, 3) := by decide +kernel
theorem d_O_learn_4 : decode prog_3_method_7_code 4 = .ok (.iconst (-1), 1) := by decide +kernel
theorem d_O_learn_5 : decode prog_3_method_7_code 5 = .ok (.invokestatic 37, 3) := by decide +kernel
theorem d_O_learn_8 : decode prog_3_method_7_code 8 = .ok (.iconst 0, 1) := by decide +kernel
theorem d_O_learn_9 : decode prog_3_method_7_code 9 = .ok (.istore_n 3, 1) := by decide +kernel
theorem d_O_learn_10 : decode prog_3_method_7_code 10 = .ok (.iload_n 3, 1) := by decide +kernel
theorem d_O_learn_11 : decode prog_3_method_7_code 11 = .ok (.aload_n 0, 1) := by decide +kernel
theorem d_O_learn_12 : decode prog_3_method_7_code 12 = .ok (.getfield 33, 3) := by decide +kernel
theorem d_O_learn_15 : decode prog_3_method_7_code 15 = .ok (.if_icmp .ge 76, 3) := by decide +kernel
theorem d_O_learn_18 : decode prog_3_method_7_code 18 = .ok (.aload_n 0, 1) := by decide +kernel
theorem d_O_learn_19 : decode prog_3_method_7_code 19 = .ok (.getfield 15, 3) := by decide +kernel
theorem d_O_learn_22 : decode prog_3_method_7_code 22 = .ok (.iload_n 3, 1) := by decide +kernel
theorem d_O_learn_23 : decode prog_3_method_7_code 23 = .ok (.iaload, 1) := by decide +kernel
theorem d_O_learn_24 : decode prog_3_method_7_code 24 = .ok (.iload_n 1, 1) := by decide +kernel
theorem d_O_learn_25 : decode prog_3_method_7_code 25 = .ok (.if_icmp .ne 60, 3) := by decide +kernel
theorem d_O_learn_28 : decode prog_3_method_7_code 28 = .ok (.aload_n 0, 1) := by decide +kernel
theorem d_O_learn_29 : decode prog_3_method_7_code 29 = .ok (.getfield 18, 3) := by decide +kernel
theorem d_O_learn_32 : decode prog_3_method_7_code 32 = .ok (.iload_n 3, 1) := by decide +kernel
theorem d_O_learn_33 : decode prog_3_method_7_code 33 = .ok (.iaload, 1) := by decide +kernel
theorem d_O_learn_34 : decode prog_3_method_7_code 34 = .ok (.iload_n 2, 1) := by decide +kernel
theorem d_O_learn_35 : decode prog_3_method_7_code 35 = .ok (.if_icmp .gt 50, 3) := by decide +kernel
theorem d_O_learn_38 : decode prog_3_method_7_code 38 = .ok (.aload_n 0, 1) := by decide +kernel
theorem d_O_learn_39 : decode prog_3_method_7_code 39 = .ok (.getfield 27, 3) := by decide +kernel
theorem d_O_learn_42 : decode prog_3_method_7_code 42 = .ok (.aload_n 0, 1) := by decide +kernel
theorem d_O_learn_43 : decode prog_3_method_7_code 43 = .ok (.getfield 9, 3) := by decide +kernel
theorem d_O_learn_46 : decode prog_3_method_7_code 46 = .ok (.iload_n 3, 1) := by decide +kernel
theorem d_O_learn_47 : decode prog_3_method_7_code 47 = .ok (.iaload, 1) := by decide +kernel
theorem d_O_learn_48 : decode prog_3_method_7_code 48 = .ok (.iaload, 1) := by decide +kernel
theorem d_O_learn_49 : decode prog_3_method_7_code 49 = .ok (.istore 4, 2) := by decide +kernel
theorem d_O_learn_51 : decode prog_3_method_7_code 51 = .ok (.iload 4, 2) := by decide +kernel
theorem d_O_learn_53 : decode prog_3_method_7_code 53 = .ok (.iconst (-1), 1) := by decide +kernel
theorem d_O_learn_54 : decode prog_3_method_7_code 54 = .ok (.if_icmp .eq 19, 3) := by decide +kernel
theorem d_O_learn_57 : decode prog_3_method_7_code 57 = .ok (.aload_n 0, 1) := by decide +kernel
theorem d_O_learn_58 : decode prog_3_method_7_code 58 = .ok (.getfield 18, 3) := by decide +kernel
theorem d_O_learn_61 : decode prog_3_method_7_code 61 = .ok (.iload 4, 2) := by decide +kernel
theorem d_O_learn_63 : decode prog_3_method_7_code 63 = .ok (.iaload, 1) := by decide +kernel
theorem d_O_learn_64 : decode prog_3_method_7_code 64 = .ok (.aload_n 0, 1) := by decide +kernel
theorem d_O_learn_65 : decode prog_3_method_7_code 65 = .ok (.getfield 18, 3) := by decide +kernel
theorem d_O_learn_68 : decode prog_3_method_7_code 68 = .ok (.iload_n 3, 1) := by decide +kernel
theorem d_O_learn_69 : decode prog_3_method_7_code 69 = .ok (.iaload, 1) := by decide +kernel
theorem d_O_learn_70 : decode prog_3_method_7_code 70 = .ok (.if_icmp .ge 15, 3) := by decide +kernel
theorem d_O_learn_73 : decode prog_3_method_7_code 73 = .ok (.aload_n 0, 1) := by decide +kernel
theorem d_O_learn_74 : decode prog_3_method_7_code 74 = .ok (.getfield 27, 3) := by decide +kernel
theorem d_O_learn_77 : decode prog_3_method_7_code 77 = .ok (.aload_n 0, 1) := by decide +kernel
theorem d_O_learn_78 : decode prog_3_method_7_code 78 = .ok (.getfield 9, 3) := by decide +kernel
theorem d_O_learn_81 : decode prog_3_method_7_code 81 = .ok (.iload_n 3, 1) := by decide +kernel
theorem d_O_learn_82 : decode prog_3_method_7_code 82 = .ok (.iaload, 1) := by decide +kernel
theorem d_O_learn_83 : decode prog_3_method_7_code 83 = .ok (.iload_n 3, 1) := by decide +kernel
theorem d_O_learn_84 : decode prog_3_method_7_code 84 = .ok (.iastore, 1) := by decide +kernel
theorem d_O_learn_85 : decode prog_3_method_7_code 85 = .ok (.iinc 3 1, 3) := by decide +kernel
theorem d_O_learn_88 : decode prog_3_method_7_code 88 = .ok (.goto (-78), 3) := by decide +kernel
theorem d_O_learn_91 : decode prog_3_method_7_code 91 = .ok (.return_, 1) := by decide +kernel
theorem d_S_isWithdrawn_0 : decode prog_4_method_8_code 0 = .ok (.aload_n 0, 1) := by decide +kernel
theorem d_S_isWithdrawn_1 : decode prog_4_method_8_code 1 = .ok (.getfield 18, 3) := by decide +kernel
theorem d_S_isWithdrawn_4 : decode prog_4_method_8_code 4 = .ok (.iload_n 1, 1) := by decide +kernel
theorem d_S_isWithdrawn_5 : decode prog_4_method_8_code 5 = .ok (.iaload, 1) := by decide +kernel
theorem d_S_isWithdrawn_6 : decode prog_4_method_8_code 6 = .ok (.iconst (-1), 1) := by decide +kernel
theorem d_S_isWithdrawn_7 : decode prog_4_method_8_code 7 = .ok (.if_icmp .eq 17, 3) := by decide +kernel
theorem d_S_isWithdrawn_10 : decode prog_4_method_8_code 10 = .ok (.aload_n 0, 1) := by decide +kernel
theorem d_S_isWithdrawn_11 : decode prog_4_method_8_code 11 = .ok (.getfield 18, 3) := by decide +kernel
theorem d_S_isWithdrawn_14 : decode prog_4_method_8_code 14 = .ok (.iload_n 1, 1) := by decide +kernel
theorem d_S_isWithdrawn_15 : decode prog_4_method_8_code 15 = .ok (.iaload, 1) := by decide +kernel
theorem d_S_isWithdrawn_16 : decode prog_4_method_8_code 16 = .ok (.iload_n 2, 1) := by decide +kernel
theorem d_S_isWithdrawn_17 : decode prog_4_method_8_code 17 = .ok (.if_icmp .gt 7, 3) := by decide +kernel
theorem d_S_isWithdrawn_20 : decode prog_4_method_8_code 20 = .ok (.iconst 1, 1) := by decide +kernel
theorem d_S_isWithdrawn_21 : decode prog_4_method_8_code 21 = .ok (.goto 4, 3) := by decide +kernel
theorem d_S_isWithdrawn_24 : decode prog_4_method_8_code 24 = .ok (.iconst 0, 1) := by decide +kernel
theorem d_S_isWithdrawn_25 : decode prog_4_method_8_code 25 = .ok (.ireturn, 1) := by decide +kernel
theorem d_S_standingOn_0 : decode prog_4_method_7_code 0 = .ok (.iconst 0, 1) := by decide +kernel
theorem d_S_standingOn_1 : decode prog_4_method_7_code 1 = .ok (.istore_n 2, 1) := by decide +kernel
theorem d_S_standingOn_2 : decode prog_4_method_7_code 2 = .ok (.iconst 0, 1) := by decide +kernel
theorem d_S_standingOn_3 : decode prog_4_method_7_code 3 = .ok (.istore_n 3, 1) := by decide +kernel
theorem d_S_standingOn_4 : decode prog_4_method_7_code 4 = .ok (.iload_n 3, 1) := by decide +kernel
theorem d_S_standingOn_5 : decode prog_4_method_7_code 5 = .ok (.aload_n 0, 1) := by decide +kernel
theorem d_S_standingOn_6 : decode prog_4_method_7_code 6 = .ok (.getfield 21, 3) := by decide +kernel
theorem d_S_standingOn_9 : decode prog_4_method_7_code 9 = .ok (.if_icmp .ge 34, 3) := by decide +kernel
theorem d_S_standingOn_12 : decode prog_4_method_7_code 12 = .ok (.aload_n 0, 1) := by decide +kernel
theorem d_S_standingOn_13 : decode prog_4_method_7_code 13 = .ok (.getfield 15, 3) := by decide +kernel
theorem d_S_standingOn_16 : decode prog_4_method_7_code 16 = .ok (.iload_n 3, 1) := by decide +kernel
theorem d_S_standingOn_17 : decode prog_4_method_7_code 17 = .ok (.iaload, 1) := by decide +kernel
theorem d_S_standingOn_18 : decode prog_4_method_7_code 18 = .ok (.iload_n 1, 1) := by decide +kernel
theorem d_S_standingOn_19 : decode prog_4_method_7_code 19 = .ok (.if_icmp .gt 18, 3) := by decide +kernel
theorem d_S_standingOn_22 : decode prog_4_method_7_code 22 = .ok (.aload_n 0, 1) := by decide +kernel
theorem d_S_standingOn_23 : decode prog_4_method_7_code 23 = .ok (.iload_n 3, 1) := by decide +kernel
theorem d_S_standingOn_24 : decode prog_4_method_7_code 24 = .ok (.iload_n 1, 1) := by decide +kernel
theorem d_S_standingOn_25 : decode prog_4_method_7_code 25 = .ok (.invokevirtual 25, 3) := by decide +kernel
theorem d_S_standingOn_28 : decode prog_4_method_7_code 28 = .ok (.ifCond .ne 9, 3) := by decide +kernel
theorem d_S_standingOn_31 : decode prog_4_method_7_code 31 = .ok (.iload_n 2, 1) := by decide +kernel
theorem d_S_standingOn_32 : decode prog_4_method_7_code 32 = .ok (.iload_n 3, 1) := by decide +kernel
theorem d_S_standingOn_33 : decode prog_4_method_7_code 33 = .ok (.invokestatic 29, 3) := by decide +kernel
theorem d_S_standingOn_36 : decode prog_4_method_7_code 36 = .ok (.istore_n 2, 1) := by decide +kernel
theorem d_S_standingOn_37 : decode prog_4_method_7_code 37 = .ok (.iinc 3 1, 3) := by decide +kernel
theorem d_S_standingOn_40 : decode prog_4_method_7_code 40 = .ok (.goto (-36), 3) := by decide +kernel
theorem d_S_standingOn_43 : decode prog_4_method_7_code 43 = .ok (.iload_n 2, 1) := by decide +kernel
theorem d_S_standingOn_44 : decode prog_4_method_7_code 44 = .ok (.ireturn, 1) := by decide +kernel
theorem d_C_heldBy_0 : decode prog_2_method_10_code 0 = .ok (.iconst 0, 1) := by decide +kernel
theorem d_C_heldBy_1 : decode prog_2_method_10_code 1 = .ok (.istore_n 2, 1) := by decide +kernel
theorem d_C_heldBy_2 : decode prog_2_method_10_code 2 = .ok (.iconst 0, 1) := by decide +kernel
theorem d_C_heldBy_3 : decode prog_2_method_10_code 3 = .ok (.istore_n 3, 1) := by decide +kernel
theorem d_C_heldBy_4 : decode prog_2_method_10_code 4 = .ok (.iload_n 3, 1) := by decide +kernel
theorem d_C_heldBy_5 : decode prog_2_method_10_code 5 = .ok (.aload_n 0, 1) := by decide +kernel
theorem d_C_heldBy_6 : decode prog_2_method_10_code 6 = .ok (.getfield 27, 3) := by decide +kernel
theorem d_C_heldBy_9 : decode prog_2_method_10_code 9 = .ok (.if_icmp .ge 82, 3) := by decide +kernel
theorem d_C_heldBy_12 : decode prog_2_method_10_code 12 = .ok (.iload_n 2, 1) := by decide +kernel
theorem d_C_heldBy_13 : decode prog_2_method_10_code 13 = .ok (.istore 4, 2) := by decide +kernel
theorem d_C_heldBy_15 : decode prog_2_method_10_code 15 = .ok (.iconst 0, 1) := by decide +kernel
theorem d_C_heldBy_16 : decode prog_2_method_10_code 16 = .ok (.istore 5, 2) := by decide +kernel
theorem d_C_heldBy_18 : decode prog_2_method_10_code 18 = .ok (.iload 5, 2) := by decide +kernel
theorem d_C_heldBy_20 : decode prog_2_method_10_code 20 = .ok (.aload_n 0, 1) := by decide +kernel
theorem d_C_heldBy_21 : decode prog_2_method_10_code 21 = .ok (.getfield 27, 3) := by decide +kernel
theorem d_C_heldBy_24 : decode prog_2_method_10_code 24 = .ok (.if_icmp .ge 52, 3) := by decide +kernel
theorem d_C_heldBy_27 : decode prog_2_method_10_code 27 = .ok (.aload_n 0, 1) := by decide +kernel
theorem d_C_heldBy_28 : decode prog_2_method_10_code 28 = .ok (.getfield 9, 3) := by decide +kernel
theorem d_C_heldBy_31 : decode prog_2_method_10_code 31 = .ok (.iload 5, 2) := by decide +kernel
theorem d_C_heldBy_33 : decode prog_2_method_10_code 33 = .ok (.iaload, 1) := by decide +kernel
theorem d_C_heldBy_34 : decode prog_2_method_10_code 34 = .ok (.iload_n 1, 1) := by decide +kernel
theorem d_C_heldBy_35 : decode prog_2_method_10_code 35 = .ok (.iand, 1) := by decide +kernel
theorem d_C_heldBy_36 : decode prog_2_method_10_code 36 = .ok (.ifCond .eq 7, 3) := by decide +kernel
theorem d_C_heldBy_39 : decode prog_2_method_10_code 39 = .ok (.iconst 1, 1) := by decide +kernel
theorem d_C_heldBy_40 : decode prog_2_method_10_code 40 = .ok (.goto 4, 3) := by decide +kernel
theorem d_C_heldBy_43 : decode prog_2_method_10_code 43 = .ok (.iconst 0, 1) := by decide +kernel
theorem d_C_heldBy_44 : decode prog_2_method_10_code 44 = .ok (.istore 6, 2) := by decide +kernel
theorem d_C_heldBy_46 : decode prog_2_method_10_code 46 = .ok (.iload 6, 2) := by decide +kernel
theorem d_C_heldBy_48 : decode prog_2_method_10_code 48 = .ok (.ifCond .ne 15, 3) := by decide +kernel
theorem d_C_heldBy_51 : decode prog_2_method_10_code 51 = .ok (.aload_n 0, 1) := by decide +kernel
theorem d_C_heldBy_52 : decode prog_2_method_10_code 52 = .ok (.getfield 15, 3) := by decide +kernel
theorem d_C_heldBy_55 : decode prog_2_method_10_code 55 = .ok (.iload 5, 2) := by decide +kernel
theorem d_C_heldBy_57 : decode prog_2_method_10_code 57 = .ok (.iaload, 1) := by decide +kernel
theorem d_C_heldBy_58 : decode prog_2_method_10_code 58 = .ok (.iload_n 2, 1) := by decide +kernel
theorem d_C_heldBy_59 : decode prog_2_method_10_code 59 = .ok (.iand, 1) := by decide +kernel
theorem d_C_heldBy_60 : decode prog_2_method_10_code 60 = .ok (.ifCond .eq 10, 3) := by decide +kernel
theorem d_C_heldBy_63 : decode prog_2_method_10_code 63 = .ok (.iload_n 2, 1) := by decide +kernel
theorem d_C_heldBy_64 : decode prog_2_method_10_code 64 = .ok (.iload 5, 2) := by decide +kernel
theorem d_C_heldBy_66 : decode prog_2_method_10_code 66 = .ok (.invokestatic 31, 3) := by decide +kernel
theorem d_C_heldBy_69 : decode prog_2_method_10_code 69 = .ok (.istore_n 2, 1) := by decide +kernel
theorem d_C_heldBy_70 : decode prog_2_method_10_code 70 = .ok (.iinc 5 1, 3) := by decide +kernel
theorem d_C_heldBy_73 : decode prog_2_method_10_code 73 = .ok (.goto (-55), 3) := by decide +kernel
theorem d_C_heldBy_76 : decode prog_2_method_10_code 76 = .ok (.iload_n 2, 1) := by decide +kernel
theorem d_C_heldBy_77 : decode prog_2_method_10_code 77 = .ok (.iload 4, 2) := by decide +kernel
theorem d_C_heldBy_79 : decode prog_2_method_10_code 79 = .ok (.if_icmp .ne 6, 3) := by decide +kernel
theorem d_C_heldBy_82 : decode prog_2_method_10_code 82 = .ok (.goto 9, 3) := by decide +kernel
theorem d_C_heldBy_85 : decode prog_2_method_10_code 85 = .ok (.iinc 3 1, 3) := by decide +kernel
theorem d_C_heldBy_88 : decode prog_2_method_10_code 88 = .ok (.goto (-84), 3) := by decide +kernel
theorem d_C_heldBy_91 : decode prog_2_method_10_code 91 = .ok (.iload_n 2, 1) := by decide +kernel
theorem d_C_heldBy_92 : decode prog_2_method_10_code 92 = .ok (.ireturn, 1) := by decide +kernel
theorem d_X_isHeld_0 : decode prog_1_method_27_code 0 = .ok (.aload_n 0, 1) := by decide +kernel
theorem d_X_isHeld_1 : decode prog_1_method_27_code 1 = .ok (.getfield 26, 3) := by decide +kernel
theorem d_X_isHeld_4 : decode prog_1_method_27_code 4 = .ok (.aload_n 0, 1) := by decide +kernel
theorem d_X_isHeld_5 : decode prog_1_method_27_code 5 = .ok (.getfield 19, 3) := by decide +kernel
theorem d_X_isHeld_8 : decode prog_1_method_27_code 8 = .ok (.iload_n 2, 1) := by decide +kernel
theorem d_X_isHeld_9 : decode prog_1_method_27_code 9 = .ok (.invokevirtual 153, 3) := by decide +kernel
theorem d_X_isHeld_12 : decode prog_1_method_27_code 12 = .ok (.invokevirtual 156, 3) := by decide +kernel
theorem d_X_isHeld_15 : decode prog_1_method_27_code 15 = .ok (.iload_n 1, 1) := by decide +kernel
theorem d_X_isHeld_16 : decode prog_1_method_27_code 16 = .ok (.invokestatic 202, 3) := by decide +kernel
theorem d_X_isHeld_19 : decode prog_1_method_27_code 19 = .ok (.ireturn, 1) := by decide +kernel
theorem d_C_ruleOf_0 : decode prog_2_method_4_code 0 = .ok (.aload_n 0, 1) := by decide +kernel
theorem d_C_ruleOf_1 : decode prog_2_method_4_code 1 = .ok (.getfield 18, 3) := by decide +kernel
theorem d_C_ruleOf_4 : decode prog_2_method_4_code 4 = .ok (.iload_n 1, 1) := by decide +kernel
theorem d_C_ruleOf_5 : decode prog_2_method_4_code 5 = .ok (.iaload, 1) := by decide +kernel
theorem d_C_ruleOf_6 : decode prog_2_method_4_code 6 = .ok (.ireturn, 1) := by decide +kernel
theorem d_O_greatestRank_0 : decode prog_3_method_12_code 0 = .ok (.iconst (-1), 1) := by decide +kernel
theorem d_O_greatestRank_1 : decode prog_3_method_12_code 1 = .ok (.istore_n 1, 1) := by decide +kernel
theorem d_O_greatestRank_2 : decode prog_3_method_12_code 2 = .ok (.iconst 0, 1) := by decide +kernel
theorem d_O_greatestRank_3 : decode prog_3_method_12_code 3 = .ok (.istore_n 2, 1) := by decide +kernel
theorem d_O_greatestRank_4 : decode prog_3_method_12_code 4 = .ok (.iload_n 2, 1) := by decide +kernel
theorem d_O_greatestRank_5 : decode prog_3_method_12_code 5 = .ok (.bipush 32, 2) := by decide +kernel
theorem d_O_greatestRank_7 : decode prog_3_method_12_code 7 = .ok (.if_icmp .ge 32, 3) := by decide +kernel
theorem d_O_greatestRank_10 : decode prog_3_method_12_code 10 = .ok (.aload_n 0, 1) := by decide +kernel
theorem d_O_greatestRank_11 : decode prog_3_method_12_code 11 = .ok (.getfield 27, 3) := by decide +kernel
theorem d_O_greatestRank_14 : decode prog_3_method_12_code 14 = .ok (.iload_n 2, 1) := by decide +kernel
theorem d_O_greatestRank_15 : decode prog_3_method_12_code 15 = .ok (.iaload, 1) := by decide +kernel
theorem d_O_greatestRank_16 : decode prog_3_method_12_code 16 = .ok (.istore_n 3, 1) := by decide +kernel
theorem d_O_greatestRank_17 : decode prog_3_method_12_code 17 = .ok (.iload_n 3, 1) := by decide +kernel
theorem d_O_greatestRank_18 : decode prog_3_method_12_code 18 = .ok (.iconst (-1), 1) := by decide +kernel
theorem d_O_greatestRank_19 : decode prog_3_method_12_code 19 = .ok (.if_icmp .eq 14, 3) := by decide +kernel
theorem d_O_greatestRank_22 : decode prog_3_method_12_code 22 = .ok (.iload_n 1, 1) := by decide +kernel
theorem d_O_greatestRank_23 : decode prog_3_method_12_code 23 = .ok (.aload_n 0, 1) := by decide +kernel
theorem d_O_greatestRank_24 : decode prog_3_method_12_code 24 = .ok (.getfield 24, 3) := by decide +kernel
theorem d_O_greatestRank_27 : decode prog_3_method_12_code 27 = .ok (.iload_n 3, 1) := by decide +kernel
theorem d_O_greatestRank_28 : decode prog_3_method_12_code 28 = .ok (.iaload, 1) := by decide +kernel
theorem d_O_greatestRank_29 : decode prog_3_method_12_code 29 = .ok (.invokestatic 61, 3) := by decide +kernel
theorem d_O_greatestRank_32 : decode prog_3_method_12_code 32 = .ok (.istore_n 1, 1) := by decide +kernel
theorem d_O_greatestRank_33 : decode prog_3_method_12_code 33 = .ok (.iinc 2 1, 3) := by decide +kernel
theorem d_O_greatestRank_36 : decode prog_3_method_12_code 36 = .ok (.goto (-32), 3) := by decide +kernel
theorem d_O_greatestRank_39 : decode prog_3_method_12_code 39 = .ok (.iload_n 1, 1) := by decide +kernel
theorem d_O_greatestRank_40 : decode prog_3_method_12_code 40 = .ok (.ireturn, 1) := by decide +kernel
theorem d_O_greatestDayOf_0 : decode prog_3_method_13_code 0 = .ok (.iconst (-1), 1) := by decide +kernel
theorem d_O_greatestDayOf_1 : decode prog_3_method_13_code 1 = .ok (.istore_n 2, 1) := by decide +kernel
theorem d_O_greatestDayOf_2 : decode prog_3_method_13_code 2 = .ok (.iconst 0, 1) := by decide +kernel
theorem d_O_greatestDayOf_3 : decode prog_3_method_13_code 3 = .ok (.istore_n 3, 1) := by decide +kernel
theorem d_O_greatestDayOf_4 : decode prog_3_method_13_code 4 = .ok (.iload_n 3, 1) := by decide +kernel
theorem d_O_greatestDayOf_5 : decode prog_3_method_13_code 5 = .ok (.bipush 32, 2) := by decide +kernel
theorem d_O_greatestDayOf_7 : decode prog_3_method_13_code 7 = .ok (.if_icmp .ge 46, 3) := by decide +kernel
theorem d_O_greatestDayOf_10 : decode prog_3_method_13_code 10 = .ok (.aload_n 0, 1) := by decide +kernel
theorem d_O_greatestDayOf_11 : decode prog_3_method_13_code 11 = .ok (.getfield 27, 3) := by decide +kernel
theorem d_O_greatestDayOf_14 : decode prog_3_method_13_code 14 = .ok (.iload_n 3, 1) := by decide +kernel
theorem d_O_greatestDayOf_15 : decode prog_3_method_13_code 15 = .ok (.iaload, 1) := by decide +kernel
theorem d_O_greatestDayOf_16 : decode prog_3_method_13_code 16 = .ok (.istore 4, 2) := by decide +kernel
theorem d_O_greatestDayOf_18 : decode prog_3_method_13_code 18 = .ok (.iload 4, 2) := by decide +kernel
theorem d_O_greatestDayOf_20 : decode prog_3_method_13_code 20 = .ok (.iconst (-1), 1) := by decide +kernel
theorem d_O_greatestDayOf_21 : decode prog_3_method_13_code 21 = .ok (.if_icmp .eq 26, 3) := by decide +kernel
theorem d_O_greatestDayOf_24 : decode prog_3_method_13_code 24 = .ok (.aload_n 0, 1) := by decide +kernel
theorem d_O_greatestDayOf_25 : decode prog_3_method_13_code 25 = .ok (.getfield 24, 3) := by decide +kernel
theorem d_O_greatestDayOf_28 : decode prog_3_method_13_code 28 = .ok (.iload 4, 2) := by decide +kernel
theorem d_O_greatestDayOf_30 : decode prog_3_method_13_code 30 = .ok (.iaload, 1) := by decide +kernel
theorem d_O_greatestDayOf_31 : decode prog_3_method_13_code 31 = .ok (.iload_n 1, 1) := by decide +kernel
theorem d_O_greatestDayOf_32 : decode prog_3_method_13_code 32 = .ok (.if_icmp .ne 15, 3) := by decide +kernel
theorem d_O_greatestDayOf_35 : decode prog_3_method_13_code 35 = .ok (.iload_n 2, 1) := by decide +kernel
theorem d_O_greatestDayOf_36 : decode prog_3_method_13_code 36 = .ok (.aload_n 0, 1) := by decide +kernel
theorem d_O_greatestDayOf_37 : decode prog_3_method_13_code 37 = .ok (.getfield 18, 3) := by decide +kernel
theorem d_O_greatestDayOf_40 : decode prog_3_method_13_code 40 = .ok (.iload 4, 2) := by decide +kernel
theorem d_O_greatestDayOf_42 : decode prog_3_method_13_code 42 = .ok (.iaload, 1) := by decide +kernel
theorem d_O_greatestDayOf_43 : decode prog_3_method_13_code 43 = .ok (.invokestatic 61, 3) := by decide +kernel
theorem d_O_greatestDayOf_46 : decode prog_3_method_13_code 46 = .ok (.istore_n 2, 1) := by decide +kernel
theorem d_O_greatestDayOf_47 : decode prog_3_method_13_code 47 = .ok (.iinc 3 1, 3) := by decide +kernel
theorem d_O_greatestDayOf_50 : decode prog_3_method_13_code 50 = .ok (.goto (-46), 3) := by decide +kernel
theorem d_O_greatestDayOf_53 : decode prog_3_method_13_code 53 = .ok (.iload_n 2, 1) := by decide +kernel
theorem d_O_greatestDayOf_54 : decode prog_3_method_13_code 54 = .ok (.ireturn, 1) := by decide +kernel
theorem d_O_commonValue_0 : decode prog_3_method_14_code 0 = .ok (.iconst (-1), 1) := by decide +kernel
theorem d_O_commonValue_1 : decode prog_3_method_14_code 1 = .ok (.istore_n 3, 1) := by decide +kernel
theorem d_O_commonValue_2 : decode prog_3_method_14_code 2 = .ok (.iconst 0, 1) := by decide +kernel
theorem d_O_commonValue_3 : decode prog_3_method_14_code 3 = .ok (.istore 4, 2) := by decide +kernel
theorem d_O_commonValue_5 : decode prog_3_method_14_code 5 = .ok (.iload 4, 2) := by decide +kernel
theorem d_O_commonValue_7 : decode prog_3_method_14_code 7 = .ok (.bipush 32, 2) := by decide +kernel
theorem d_O_commonValue_9 : decode prog_3_method_14_code 9 = .ok (.if_icmp .ge 76, 3) := by decide +kernel
theorem d_O_commonValue_12 : decode prog_3_method_14_code 12 = .ok (.aload_n 0, 1) := by decide +kernel
theorem d_O_commonValue_13 : decode prog_3_method_14_code 13 = .ok (.getfield 27, 3) := by decide +kernel
theorem d_O_commonValue_16 : decode prog_3_method_14_code 16 = .ok (.iload 4, 2) := by decide +kernel
theorem d_O_commonValue_18 : decode prog_3_method_14_code 18 = .ok (.iaload, 1) := by decide +kernel
theorem d_O_commonValue_19 : decode prog_3_method_14_code 19 = .ok (.istore 5, 2) := by decide +kernel
theorem d_O_commonValue_21 : decode prog_3_method_14_code 21 = .ok (.iload 5, 2) := by decide +kernel
theorem d_O_commonValue_23 : decode prog_3_method_14_code 23 = .ok (.iconst (-1), 1) := by decide +kernel
theorem d_O_commonValue_24 : decode prog_3_method_14_code 24 = .ok (.if_icmp .eq 55, 3) := by decide +kernel
theorem d_O_commonValue_27 : decode prog_3_method_14_code 27 = .ok (.aload_n 0, 1) := by decide +kernel
theorem d_O_commonValue_28 : decode prog_3_method_14_code 28 = .ok (.getfield 24, 3) := by decide +kernel
theorem d_O_commonValue_31 : decode prog_3_method_14_code 31 = .ok (.iload 5, 2) := by decide +kernel
theorem d_O_commonValue_33 : decode prog_3_method_14_code 33 = .ok (.iaload, 1) := by decide +kernel
theorem d_O_commonValue_34 : decode prog_3_method_14_code 34 = .ok (.iload_n 1, 1) := by decide +kernel
theorem d_O_commonValue_35 : decode prog_3_method_14_code 35 = .ok (.if_icmp .lt 44, 3) := by decide +kernel
theorem d_O_commonValue_38 : decode prog_3_method_14_code 38 = .ok (.aload_n 0, 1) := by decide +kernel
theorem d_O_commonValue_39 : decode prog_3_method_14_code 39 = .ok (.getfield 18, 3) := by decide +kernel
theorem d_O_commonValue_42 : decode prog_3_method_14_code 42 = .ok (.iload 5, 2) := by decide +kernel
theorem d_O_commonValue_44 : decode prog_3_method_14_code 44 = .ok (.iaload, 1) := by decide +kernel
theorem d_O_commonValue_45 : decode prog_3_method_14_code 45 = .ok (.iload_n 2, 1) := by decide +kernel
theorem d_O_commonValue_46 : decode prog_3_method_14_code 46 = .ok (.if_icmp .lt 33, 3) := by decide +kernel
theorem d_O_commonValue_49 : decode prog_3_method_14_code 49 = .ok (.iload_n 3, 1) := by decide +kernel
theorem d_O_commonValue_50 : decode prog_3_method_14_code 50 = .ok (.iconst (-1), 1) := by decide +kernel
theorem d_O_commonValue_51 : decode prog_3_method_14_code 51 = .ok (.if_icmp .ne 14, 3) := by decide +kernel
theorem d_O_commonValue_54 : decode prog_3_method_14_code 54 = .ok (.aload_n 0, 1) := by decide +kernel
theorem d_O_commonValue_55 : decode prog_3_method_14_code 55 = .ok (.getfield 21, 3) := by decide +kernel
theorem d_O_commonValue_58 : decode prog_3_method_14_code 58 = .ok (.iload 5, 2) := by decide +kernel
theorem d_O_commonValue_60 : decode prog_3_method_14_code 60 = .ok (.iaload, 1) := by decide +kernel
theorem d_O_commonValue_61 : decode prog_3_method_14_code 61 = .ok (.istore_n 3, 1) := by decide +kernel
theorem d_O_commonValue_62 : decode prog_3_method_14_code 62 = .ok (.goto 17, 3) := by decide +kernel
theorem d_O_commonValue_65 : decode prog_3_method_14_code 65 = .ok (.iload_n 3, 1) := by decide +kernel
theorem d_O_commonValue_66 : decode prog_3_method_14_code 66 = .ok (.aload_n 0, 1) := by decide +kernel
theorem d_O_commonValue_67 : decode prog_3_method_14_code 67 = .ok (.getfield 21, 3) := by decide +kernel
theorem d_O_commonValue_70 : decode prog_3_method_14_code 70 = .ok (.iload 5, 2) := by decide +kernel
theorem d_O_commonValue_72 : decode prog_3_method_14_code 72 = .ok (.iaload, 1) := by decide +kernel
theorem d_O_commonValue_73 : decode prog_3_method_14_code 73 = .ok (.if_icmp .eq 6, 3) := by decide +kernel
theorem d_O_commonValue_76 : decode prog_3_method_14_code 76 = .ok (.bipush (-2), 2) := by decide +kernel
theorem d_O_commonValue_78 : decode prog_3_method_14_code 78 = .ok (.ireturn, 1) := by decide +kernel
theorem d_O_commonValue_79 : decode prog_3_method_14_code 79 = .ok (.iinc 4 1, 3) := by decide +kernel
theorem d_O_commonValue_82 : decode prog_3_method_14_code 82 = .ok (.goto (-77), 3) := by decide +kernel
theorem d_O_commonValue_85 : decode prog_3_method_14_code 85 = .ok (.iload_n 3, 1) := by decide +kernel
theorem d_O_commonValue_86 : decode prog_3_method_14_code 86 = .ok (.ireturn, 1) := by decide +kernel
theorem d_O_valueOfGreatestRank_0 : decode prog_3_method_11_code 0 = .ok (.aload_n 0, 1) := by decide +kernel
theorem d_O_valueOfGreatestRank_1 : decode prog_3_method_11_code 1 = .ok (.invokevirtual 54, 3) := by decide +kernel
theorem d_O_valueOfGreatestRank_4 : decode prog_3_method_11_code 4 = .ok (.istore_n 1, 1) := by decide +kernel
theorem d_O_valueOfGreatestRank_5 : decode prog_3_method_11_code 5 = .ok (.aload_n 0, 1) := by decide +kernel
theorem d_O_valueOfGreatestRank_6 : decode prog_3_method_11_code 6 = .ok (.iload_n 1, 1) := by decide +kernel
theorem d_O_valueOfGreatestRank_7 : decode prog_3_method_11_code 7 = .ok (.aload_n 0, 1) := by decide +kernel
theorem d_O_valueOfGreatestRank_8 : decode prog_3_method_11_code 8 = .ok (.iload_n 1, 1) := by decide +kernel
theorem d_O_valueOfGreatestRank_9 : decode prog_3_method_11_code 9 = .ok (.invokevirtual 57, 3) := by decide +kernel
theorem d_O_valueOfGreatestRank_12 : decode prog_3_method_11_code 12 = .ok (.invokevirtual 47, 3) := by decide +kernel
theorem d_O_valueOfGreatestRank_15 : decode prog_3_method_11_code 15 = .ok (.ireturn, 1) := by decide +kernel
theorem d_O_mostFrequentValue_0 : decode prog_3_method_10_code 0 = .ok (.aload_n 0, 1) := by decide +kernel
theorem d_O_mostFrequentValue_1 : decode prog_3_method_10_code 1 = .ok (.getfield 30, 3) := by decide +kernel
theorem d_O_mostFrequentValue_4 : decode prog_3_method_10_code 4 = .ok (.iconst 0, 1) := by decide +kernel
theorem d_O_mostFrequentValue_5 : decode prog_3_method_10_code 5 = .ok (.invokestatic 37, 3) := by decide +kernel
theorem d_O_mostFrequentValue_8 : decode prog_3_method_10_code 8 = .ok (.iconst 0, 1) := by decide +kernel
theorem d_O_mostFrequentValue_9 : decode prog_3_method_10_code 9 = .ok (.istore_n 1, 1) := by decide +kernel
theorem d_O_mostFrequentValue_10 : decode prog_3_method_10_code 10 = .ok (.iload_n 1, 1) := by decide +kernel
theorem d_O_mostFrequentValue_11 : decode prog_3_method_10_code 11 = .ok (.bipush 32, 2) := by decide +kernel
theorem d_O_mostFrequentValue_13 : decode prog_3_method_10_code 13 = .ok (.if_icmp .ge 36, 3) := by decide +kernel
theorem d_O_mostFrequentValue_16 : decode prog_3_method_10_code 16 = .ok (.aload_n 0, 1) := by decide +kernel
theorem d_O_mostFrequentValue_17 : decode prog_3_method_10_code 17 = .ok (.getfield 27, 3) := by decide +kernel
theorem d_O_mostFrequentValue_20 : decode prog_3_method_10_code 20 = .ok (.iload_n 1, 1) := by decide +kernel
theorem d_O_mostFrequentValue_21 : decode prog_3_method_10_code 21 = .ok (.iaload, 1) := by decide +kernel
theorem d_O_mostFrequentValue_22 : decode prog_3_method_10_code 22 = .ok (.istore_n 2, 1) := by decide +kernel
theorem d_O_mostFrequentValue_23 : decode prog_3_method_10_code 23 = .ok (.iload_n 2, 1) := by decide +kernel
theorem d_O_mostFrequentValue_24 : decode prog_3_method_10_code 24 = .ok (.iconst (-1), 1) := by decide +kernel
theorem d_O_mostFrequentValue_25 : decode prog_3_method_10_code 25 = .ok (.if_icmp .eq 18, 3) := by decide +kernel
theorem d_O_mostFrequentValue_28 : decode prog_3_method_10_code 28 = .ok (.aload_n 0, 1) := by decide +kernel
theorem d_O_mostFrequentValue_29 : decode prog_3_method_10_code 29 = .ok (.getfield 30, 3) := by decide +kernel
theorem d_O_mostFrequentValue_32 : decode prog_3_method_10_code 32 = .ok (.aload_n 0, 1) := by decide +kernel
theorem d_O_mostFrequentValue_33 : decode prog_3_method_10_code 33 = .ok (.getfield 21, 3) := by decide +kernel
theorem d_O_mostFrequentValue_36 : decode prog_3_method_10_code 36 = .ok (.iload_n 2, 1) := by decide +kernel
theorem d_O_mostFrequentValue_37 : decode prog_3_method_10_code 37 = .ok (.iaload, 1) := by decide +kernel
theorem d_O_mostFrequentValue_38 : decode prog_3_method_10_code 38 = .ok (.dup2, 1) := by decide +kernel
theorem d_O_mostFrequentValue_39 : decode prog_3_method_10_code 39 = .ok (.iaload, 1) := by decide +kernel
theorem d_O_mostFrequentValue_40 : decode prog_3_method_10_code 40 = .ok (.iconst 1, 1) := by decide +kernel
theorem d_O_mostFrequentValue_41 : decode prog_3_method_10_code 41 = .ok (.iadd, 1) := by decide +kernel
theorem d_O_mostFrequentValue_42 : decode prog_3_method_10_code 42 = .ok (.iastore, 1) := by decide +kernel
theorem d_O_mostFrequentValue_43 : decode prog_3_method_10_code 43 = .ok (.iinc 1 1, 3) := by decide +kernel
theorem d_O_mostFrequentValue_46 : decode prog_3_method_10_code 46 = .ok (.goto (-36), 3) := by decide +kernel
theorem d_O_mostFrequentValue_49 : decode prog_3_method_10_code 49 = .ok (.iconst 0, 1) := by decide +kernel
theorem d_O_mostFrequentValue_50 : decode prog_3_method_10_code 50 = .ok (.istore_n 1, 1) := by decide +kernel
theorem d_O_mostFrequentValue_51 : decode prog_3_method_10_code 51 = .ok (.iconst (-1), 1) := by decide +kernel
theorem d_O_mostFrequentValue_52 : decode prog_3_method_10_code 52 = .ok (.istore_n 2, 1) := by decide +kernel
theorem d_O_mostFrequentValue_53 : decode prog_3_method_10_code 53 = .ok (.iconst 0, 1) := by decide +kernel
theorem d_O_mostFrequentValue_54 : decode prog_3_method_10_code 54 = .ok (.istore_n 3, 1) := by decide +kernel
theorem d_O_mostFrequentValue_55 : decode prog_3_method_10_code 55 = .ok (.iload_n 3, 1) := by decide +kernel
theorem d_O_mostFrequentValue_56 : decode prog_3_method_10_code 56 = .ok (.bipush 100, 2) := by decide +kernel
theorem d_O_mostFrequentValue_58 : decode prog_3_method_10_code 58 = .ok (.if_icmp .ge 48, 3) := by decide +kernel
theorem d_O_mostFrequentValue_61 : decode prog_3_method_10_code 61 = .ok (.aload_n 0, 1) := by decide +kernel
theorem d_O_mostFrequentValue_62 : decode prog_3_method_10_code 62 = .ok (.getfield 30, 3) := by decide +kernel
theorem d_O_mostFrequentValue_65 : decode prog_3_method_10_code 65 = .ok (.iload_n 3, 1) := by decide +kernel
theorem d_O_mostFrequentValue_66 : decode prog_3_method_10_code 66 = .ok (.iaload, 1) := by decide +kernel
theorem d_O_mostFrequentValue_67 : decode prog_3_method_10_code 67 = .ok (.iload_n 1, 1) := by decide +kernel
theorem d_O_mostFrequentValue_68 : decode prog_3_method_10_code 68 = .ok (.if_icmp .le 15, 3) := by decide +kernel
theorem d_O_mostFrequentValue_71 : decode prog_3_method_10_code 71 = .ok (.aload_n 0, 1) := by decide +kernel
theorem d_O_mostFrequentValue_72 : decode prog_3_method_10_code 72 = .ok (.getfield 30, 3) := by decide +kernel
theorem d_O_mostFrequentValue_75 : decode prog_3_method_10_code 75 = .ok (.iload_n 3, 1) := by decide +kernel
theorem d_O_mostFrequentValue_76 : decode prog_3_method_10_code 76 = .ok (.iaload, 1) := by decide +kernel
theorem d_O_mostFrequentValue_77 : decode prog_3_method_10_code 77 = .ok (.istore_n 1, 1) := by decide +kernel
theorem d_O_mostFrequentValue_78 : decode prog_3_method_10_code 78 = .ok (.iload_n 3, 1) := by decide +kernel
theorem d_O_mostFrequentValue_79 : decode prog_3_method_10_code 79 = .ok (.istore_n 2, 1) := by decide +kernel
theorem d_O_mostFrequentValue_80 : decode prog_3_method_10_code 80 = .ok (.goto 20, 3) := by decide +kernel
theorem d_O_mostFrequentValue_83 : decode prog_3_method_10_code 83 = .ok (.aload_n 0, 1) := by decide +kernel
theorem d_O_mostFrequentValue_84 : decode prog_3_method_10_code 84 = .ok (.getfield 30, 3) := by decide +kernel
theorem d_O_mostFrequentValue_87 : decode prog_3_method_10_code 87 = .ok (.iload_n 3, 1) := by decide +kernel
theorem d_O_mostFrequentValue_88 : decode prog_3_method_10_code 88 = .ok (.iaload, 1) := by decide +kernel
theorem d_O_mostFrequentValue_89 : decode prog_3_method_10_code 89 = .ok (.iload_n 1, 1) := by decide +kernel
theorem d_O_mostFrequentValue_90 : decode prog_3_method_10_code 90 = .ok (.if_icmp .ne 10, 3) := by decide +kernel
theorem d_O_mostFrequentValue_93 : decode prog_3_method_10_code 93 = .ok (.iload_n 1, 1) := by decide +kernel
theorem d_O_mostFrequentValue_94 : decode prog_3_method_10_code 94 = .ok (.ifCond .le 6, 3) := by decide +kernel
theorem d_O_mostFrequentValue_97 : decode prog_3_method_10_code 97 = .ok (.bipush (-2), 2) := by decide +kernel
theorem d_O_mostFrequentValue_99 : decode prog_3_method_10_code 99 = .ok (.istore_n 2, 1) := by decide +kernel
theorem d_O_mostFrequentValue_100 : decode prog_3_method_10_code 100 = .ok (.iinc 3 1, 3) := by decide +kernel
theorem d_O_mostFrequentValue_103 : decode prog_3_method_10_code 103 = .ok (.goto (-48), 3) := by decide +kernel
theorem d_O_mostFrequentValue_106 : decode prog_3_method_10_code 106 = .ok (.iload_n 2, 1) := by decide +kernel
theorem d_O_mostFrequentValue_107 : decode prog_3_method_10_code 107 = .ok (.ireturn, 1) := by decide +kernel
theorem d_O_valueBy_0 : decode prog_3_method_8_code 0 = .ok (.iload_n 1, 1) := by decide +kernel
theorem d_O_valueBy_1 : decode prog_3_method_8_code 1 = .ok (.lookupswitch 39 #[(1, 27), (2, 32)], 27) := by decide +kernel
theorem d_O_valueBy_28 : decode prog_3_method_8_code 28 = .ok (.aload_n 0, 1) := by decide +kernel
theorem d_O_valueBy_29 : decode prog_3_method_8_code 29 = .ok (.invokevirtual 43, 3) := by decide +kernel
theorem d_O_valueBy_32 : decode prog_3_method_8_code 32 = .ok (.ireturn, 1) := by decide +kernel
theorem d_O_valueBy_33 : decode prog_3_method_8_code 33 = .ok (.aload_n 0, 1) := by decide +kernel
theorem d_O_valueBy_34 : decode prog_3_method_8_code 34 = .ok (.iconst (-1), 1) := by decide +kernel
theorem d_O_valueBy_35 : decode prog_3_method_8_code 35 = .ok (.iconst (-1), 1) := by decide +kernel
theorem d_O_valueBy_36 : decode prog_3_method_8_code 36 = .ok (.invokevirtual 47, 3) := by decide +kernel
theorem d_O_valueBy_39 : decode prog_3_method_8_code 39 = .ok (.ireturn, 1) := by decide +kernel
theorem d_O_valueBy_40 : decode prog_3_method_8_code 40 = .ok (.aload_n 0, 1) := by decide +kernel
theorem d_O_valueBy_41 : decode prog_3_method_8_code 41 = .ok (.invokevirtual 51, 3) := by decide +kernel
theorem d_O_valueBy_44 : decode prog_3_method_8_code 44 = .ok (.ireturn, 1) := by decide +kernel
theorem d_X_agreedValue_0 : decode prog_1_method_28_code 0 = .ok (.aload_n 0, 1) := by decide +kernel
theorem d_X_agreedValue_1 : decode prog_1_method_28_code 1 = .ok (.getfield 33, 3) := by decide +kernel
theorem d_X_agreedValue_4 : decode prog_1_method_28_code 4 = .ok (.iload_n 1, 1) := by decide +kernel
theorem d_X_agreedValue_5 : decode prog_1_method_28_code 5 = .ok (.iload_n 2, 1) := by decide +kernel
theorem d_X_agreedValue_6 : decode prog_1_method_28_code 6 = .ok (.invokevirtual 205, 3) := by decide +kernel
theorem d_X_agreedValue_9 : decode prog_1_method_28_code 9 = .ok (.aload_n 0, 1) := by decide +kernel
theorem d_X_agreedValue_10 : decode prog_1_method_28_code 10 = .ok (.iload_n 1, 1) := by decide +kernel
theorem d_X_agreedValue_11 : decode prog_1_method_28_code 11 = .ok (.iload_n 2, 1) := by decide +kernel
theorem d_X_agreedValue_12 : decode prog_1_method_28_code 12 = .ok (.invokevirtual 150, 3) := by decide +kernel
theorem d_X_agreedValue_15 : decode prog_1_method_28_code 15 = .ok (.ifCond .eq 21, 3) := by decide +kernel
theorem d_X_agreedValue_18 : decode prog_1_method_28_code 18 = .ok (.aload_n 0, 1) := by decide +kernel
theorem d_X_agreedValue_19 : decode prog_1_method_28_code 19 = .ok (.getfield 33, 3) := by decide +kernel
theorem d_X_agreedValue_22 : decode prog_1_method_28_code 22 = .ok (.aload_n 0, 1) := by decide +kernel
theorem d_X_agreedValue_23 : decode prog_1_method_28_code 23 = .ok (.getfield 26, 3) := by decide +kernel
theorem d_X_agreedValue_26 : decode prog_1_method_28_code 26 = .ok (.iload_n 1, 1) := by decide +kernel
theorem d_X_agreedValue_27 : decode prog_1_method_28_code 27 = .ok (.invokevirtual 209, 3) := by decide +kernel
theorem d_X_agreedValue_30 : decode prog_1_method_28_code 30 = .ok (.invokevirtual 212, 3) := by decide +kernel
theorem d_X_agreedValue_33 : decode prog_1_method_28_code 33 = .ok (.goto 4, 3) := by decide +kernel
theorem d_X_agreedValue_36 : decode prog_1_method_28_code 36 = .ok (.iconst (-1), 1) := by decide +kernel
theorem d_X_agreedValue_37 : decode prog_1_method_28_code 37 = .ok (.ireturn, 1) := by decide +kernel
theorem d_X_agreed_0 : decode prog_1_method_13_code 0 = .ok (.aload_n 0, 1) := by decide +kernel
theorem d_X_agreed_1 : decode prog_1_method_13_code 1 = .ok (.iload_n 1, 1) := by decide +kernel
theorem d_X_agreed_2 : decode prog_1_method_13_code 2 = .ok (.invokevirtual 87, 3) := by decide +kernel
theorem d_X_agreed_5 : decode prog_1_method_13_code 5 = .ok (.iload_n 2, 1) := by decide +kernel
theorem d_X_agreed_6 : decode prog_1_method_13_code 6 = .ok (.invokestatic 66, 3) := by decide +kernel
theorem d_X_agreed_9 : decode prog_1_method_13_code 9 = .ok (.aload_n 0, 1) := by decide +kernel
theorem d_X_agreed_10 : decode prog_1_method_13_code 10 = .ok (.iload_n 1, 1) := by decide +kernel
theorem d_X_agreed_11 : decode prog_1_method_13_code 11 = .ok (.iload_n 2, 1) := by decide +kernel
theorem d_X_agreed_12 : decode prog_1_method_13_code 12 = .ok (.invokevirtual 144, 3) := by decide +kernel
theorem d_X_agreed_15 : decode prog_1_method_13_code 15 = .ok (.ireturn, 1) := by decide +kernel
theorem d_O_dissenter_0 : decode prog_3_method_9_code 0 = .ok (.iload_n 2, 1) := by decide +kernel
theorem d_O_dissenter_1 : decode prog_3_method_9_code 1 = .ok (.istore_n 3, 1) := by decide +kernel
theorem d_O_dissenter_2 : decode prog_3_method_9_code 2 = .ok (.iconst 0, 1) := by decide +kernel
theorem d_O_dissenter_3 : decode prog_3_method_9_code 3 = .ok (.istore 4, 2) := by decide +kernel
theorem d_O_dissenter_5 : decode prog_3_method_9_code 5 = .ok (.iload 4, 2) := by decide +kernel
theorem d_O_dissenter_7 : decode prog_3_method_9_code 7 = .ok (.bipush 32, 2) := by decide +kernel
theorem d_O_dissenter_9 : decode prog_3_method_9_code 9 = .ok (.if_icmp .ge 45, 3) := by decide +kernel
theorem d_O_dissenter_12 : decode prog_3_method_9_code 12 = .ok (.aload_n 0, 1) := by decide +kernel
theorem d_O_dissenter_13 : decode prog_3_method_9_code 13 = .ok (.getfield 27, 3) := by decide +kernel
theorem d_O_dissenter_16 : decode prog_3_method_9_code 16 = .ok (.iload 4, 2) := by decide +kernel
theorem d_O_dissenter_18 : decode prog_3_method_9_code 18 = .ok (.iaload, 1) := by decide +kernel
theorem d_O_dissenter_19 : decode prog_3_method_9_code 19 = .ok (.istore 5, 2) := by decide +kernel
theorem d_O_dissenter_21 : decode prog_3_method_9_code 21 = .ok (.iload 5, 2) := by decide +kernel
theorem d_O_dissenter_23 : decode prog_3_method_9_code 23 = .ok (.iconst (-1), 1) := by decide +kernel
theorem d_O_dissenter_24 : decode prog_3_method_9_code 24 = .ok (.if_icmp .eq 24, 3) := by decide +kernel
theorem d_O_dissenter_27 : decode prog_3_method_9_code 27 = .ok (.aload_n 0, 1) := by decide +kernel
theorem d_O_dissenter_28 : decode prog_3_method_9_code 28 = .ok (.getfield 21, 3) := by decide +kernel
theorem d_O_dissenter_31 : decode prog_3_method_9_code 31 = .ok (.iload 5, 2) := by decide +kernel
theorem d_O_dissenter_33 : decode prog_3_method_9_code 33 = .ok (.iaload, 1) := by decide +kernel
theorem d_O_dissenter_34 : decode prog_3_method_9_code 34 = .ok (.iload_n 1, 1) := by decide +kernel
theorem d_O_dissenter_35 : decode prog_3_method_9_code 35 = .ok (.if_icmp .eq 13, 3) := by decide +kernel
theorem d_O_dissenter_38 : decode prog_3_method_9_code 38 = .ok (.iload_n 3, 1) := by decide +kernel
theorem d_O_dissenter_39 : decode prog_3_method_9_code 39 = .ok (.ifCond .ne 6, 3) := by decide +kernel
theorem d_O_dissenter_42 : decode prog_3_method_9_code 42 = .ok (.iload 4, 2) := by decide +kernel
theorem d_O_dissenter_44 : decode prog_3_method_9_code 44 = .ok (.ireturn, 1) := by decide +kernel
theorem d_O_dissenter_45 : decode prog_3_method_9_code 45 = .ok (.iinc 3 (-1), 3) := by decide +kernel
theorem d_O_dissenter_48 : decode prog_3_method_9_code 48 = .ok (.iinc 4 1, 3) := by decide +kernel
theorem d_O_dissenter_51 : decode prog_3_method_9_code 51 = .ok (.goto (-46), 3) := by decide +kernel
theorem d_O_dissenter_54 : decode prog_3_method_9_code 54 = .ok (.iconst (-1), 1) := by decide +kernel
theorem d_O_dissenter_55 : decode prog_3_method_9_code 55 = .ok (.ireturn, 1) := by decide +kernel
theorem d_X_dissent_0 : decode prog_1_method_14_code 0 = .ok (.aload_n 0, 1) := by decide +kernel
theorem d_X_dissent_1 : decode prog_1_method_14_code 1 = .ok (.iload_n 1, 1) := by decide +kernel
theorem d_X_dissent_2 : decode prog_1_method_14_code 2 = .ok (.invokevirtual 87, 3) := by decide +kernel
theorem d_X_dissent_5 : decode prog_1_method_14_code 5 = .ok (.iload_n 3, 1) := by decide +kernel
theorem d_X_dissent_6 : decode prog_1_method_14_code 6 = .ok (.invokestatic 107, 3) := by decide +kernel
theorem d_X_dissent_9 : decode prog_1_method_14_code 9 = .ok (.iload_n 2, 1) := by decide +kernel
theorem d_X_dissent_10 : decode prog_1_method_14_code 10 = .ok (.invokestatic 66, 3) := by decide +kernel
theorem d_X_dissent_13 : decode prog_1_method_14_code 13 = .ok (.aload_n 0, 1) := by decide +kernel
theorem d_X_dissent_14 : decode prog_1_method_14_code 14 = .ok (.getfield 33, 3) := by decide +kernel
theorem d_X_dissent_17 : decode prog_1_method_14_code 17 = .ok (.aload_n 0, 1) := by decide +kernel
theorem d_X_dissent_18 : decode prog_1_method_14_code 18 = .ok (.iload_n 1, 1) := by decide +kernel
theorem d_X_dissent_19 : decode prog_1_method_14_code 19 = .ok (.iload_n 2, 1) := by decide +kernel
theorem d_X_dissent_20 : decode prog_1_method_14_code 20 = .ok (.invokevirtual 144, 3) := by decide +kernel
theorem d_X_dissent_23 : decode prog_1_method_14_code 23 = .ok (.iload_n 3, 1) := by decide +kernel
theorem d_X_dissent_24 : decode prog_1_method_14_code 24 = .ok (.invokevirtual 147, 3) := by decide +kernel
theorem d_X_dissent_27 : decode prog_1_method_14_code 27 = .ok (.ireturn, 1) := by decide +kernel
theorem d_X_held_0 : decode prog_1_method_15_code 0 = .ok (.aload_n 0, 1) := by decide +kernel
theorem d_X_held_1 : decode prog_1_method_15_code 1 = .ok (.iload_n 1, 1) := by decide +kernel
theorem d_X_held_2 : decode prog_1_method_15_code 2 = .ok (.invokevirtual 87, 3) := by decide +kernel
theorem d_X_held_5 : decode prog_1_method_15_code 5 = .ok (.iload_n 2, 1) := by decide +kernel
theorem d_X_held_6 : decode prog_1_method_15_code 6 = .ok (.invokestatic 66, 3) := by decide +kernel
theorem d_X_held_9 : decode prog_1_method_15_code 9 = .ok (.aload_n 0, 1) := by decide +kernel
theorem d_X_held_10 : decode prog_1_method_15_code 10 = .ok (.iload_n 1, 1) := by decide +kernel
theorem d_X_held_11 : decode prog_1_method_15_code 11 = .ok (.iload_n 2, 1) := by decide +kernel
theorem d_X_held_12 : decode prog_1_method_15_code 12 = .ok (.invokevirtual 150, 3) := by decide +kernel
theorem d_X_held_15 : decode prog_1_method_15_code 15 = .ok (.ireturn, 1) := by decide +kernel
theorem d_X_memberAt_0 : decode prog_1_method_39_code 0 = .ok (.iload_n 1, 1) := by decide +kernel
theorem d_X_memberAt_1 : decode prog_1_method_39_code 1 = .ok (.istore_n 2, 1) := by decide +kernel
theorem d_X_memberAt_2 : decode prog_1_method_39_code 2 = .ok (.iconst 0, 1) := by decide +kernel
theorem d_X_memberAt_3 : decode prog_1_method_39_code 3 = .ok (.istore_n 3, 1) := by decide +kernel
theorem d_X_memberAt_4 : decode prog_1_method_39_code 4 = .ok (.iload_n 3, 1) := by decide +kernel
theorem d_X_memberAt_5 : decode prog_1_method_39_code 5 = .ok (.bipush 24, 2) := by decide +kernel
theorem d_X_memberAt_7 : decode prog_1_method_39_code 7 = .ok (.if_icmp .ge 26, 3) := by decide +kernel
theorem d_X_memberAt_10 : decode prog_1_method_39_code 10 = .ok (.iload_n 0, 1) := by decide +kernel
theorem d_X_memberAt_11 : decode prog_1_method_39_code 11 = .ok (.iload_n 3, 1) := by decide +kernel
theorem d_X_memberAt_12 : decode prog_1_method_39_code 12 = .ok (.invokestatic 202, 3) := by decide +kernel
theorem d_X_memberAt_15 : decode prog_1_method_39_code 15 = .ok (.ifCond .eq 12, 3) := by decide +kernel
theorem d_X_memberAt_18 : decode prog_1_method_39_code 18 = .ok (.iload_n 2, 1) := by decide +kernel
theorem d_X_memberAt_19 : decode prog_1_method_39_code 19 = .ok (.ifCond .ne 5, 3) := by decide +kernel
theorem d_X_memberAt_22 : decode prog_1_method_39_code 22 = .ok (.iload_n 3, 1) := by decide +kernel
theorem d_X_memberAt_23 : decode prog_1_method_39_code 23 = .ok (.ireturn, 1) := by decide +kernel
theorem d_X_memberAt_24 : decode prog_1_method_39_code 24 = .ok (.iinc 2 (-1), 3) := by decide +kernel
theorem d_X_memberAt_27 : decode prog_1_method_39_code 27 = .ok (.iinc 3 1, 3) := by decide +kernel
theorem d_X_memberAt_30 : decode prog_1_method_39_code 30 = .ok (.goto (-26), 3) := by decide +kernel
theorem d_X_memberAt_33 : decode prog_1_method_39_code 33 = .ok (.iconst (-1), 1) := by decide +kernel
theorem d_X_memberAt_34 : decode prog_1_method_39_code 34 = .ok (.ireturn, 1) := by decide +kernel
theorem d_X_opened_0 : decode prog_1_method_16_code 0 = .ok (.aload_n 0, 1) := by decide +kernel
theorem d_X_opened_1 : decode prog_1_method_16_code 1 = .ok (.iload_n 1, 1) := by decide +kernel
theorem d_X_opened_2 : decode prog_1_method_16_code 2 = .ok (.invokevirtual 90, 3) := by decide +kernel
theorem d_X_opened_5 : decode prog_1_method_16_code 5 = .ok (.iload_n 3, 1) := by decide +kernel
theorem d_X_opened_6 : decode prog_1_method_16_code 6 = .ok (.invokestatic 107, 3) := by decide +kernel
theorem d_X_opened_9 : decode prog_1_method_16_code 9 = .ok (.iload_n 2, 1) := by decide +kernel
theorem d_X_opened_10 : decode prog_1_method_16_code 10 = .ok (.invokestatic 66, 3) := by decide +kernel
theorem d_X_opened_13 : decode prog_1_method_16_code 13 = .ok (.aload_n 0, 1) := by decide +kernel
theorem d_X_opened_14 : decode prog_1_method_16_code 14 = .ok (.getfield 19, 3) := by decide +kernel
theorem d_X_opened_17 : decode prog_1_method_16_code 17 = .ok (.iload_n 2, 1) := by decide +kernel
theorem d_X_opened_18 : decode prog_1_method_16_code 18 = .ok (.invokevirtual 153, 3) := by decide +kernel
theorem d_X_opened_21 : decode prog_1_method_16_code 21 = .ok (.istore 4, 2) := by decide +kernel
theorem d_X_opened_23 : decode prog_1_method_16_code 23 = .ok (.aload_n 0, 1) := by decide +kernel
theorem d_X_opened_24 : decode prog_1_method_16_code 24 = .ok (.getfield 26, 3) := by decide +kernel
theorem d_X_opened_27 : decode prog_1_method_16_code 27 = .ok (.iload 4, 2) := by decide +kernel
theorem d_X_opened_29 : decode prog_1_method_16_code 29 = .ok (.invokevirtual 156, 3) := by decide +kernel
theorem d_X_opened_32 : decode prog_1_method_16_code 32 = .ok (.istore 5, 2) := by decide +kernel
theorem d_X_opened_34 : decode prog_1_method_16_code 34 = .ok (.aload_n 0, 1) := by decide +kernel
theorem d_X_opened_35 : decode prog_1_method_16_code 35 = .ok (.getfield 26, 3) := by decide +kernel
theorem d_X_opened_38 : decode prog_1_method_16_code 38 = .ok (.iload 4, 2) := by decide +kernel
theorem d_X_opened_40 : decode prog_1_method_16_code 40 = .ok (.iload_n 1, 1) := by decide +kernel
theorem d_X_opened_41 : decode prog_1_method_16_code 41 = .ok (.invokestatic 159, 3) := by decide +kernel
theorem d_X_opened_44 : decode prog_1_method_16_code 44 = .ok (.invokevirtual 156, 3) := by decide +kernel
theorem d_X_opened_47 : decode prog_1_method_16_code 47 = .ok (.istore 6, 2) := by decide +kernel
theorem d_X_opened_49 : decode prog_1_method_16_code 49 = .ok (.iload 5, 2) := by decide +kernel
theorem d_X_opened_51 : decode prog_1_method_16_code 51 = .ok (.iload 6, 2) := by decide +kernel
theorem d_X_opened_53 : decode prog_1_method_16_code 53 = .ok (.iconst (-1), 1) := by decide +kernel
theorem d_X_opened_54 : decode prog_1_method_16_code 54 = .ok (.ixor, 1) := by decide +kernel
theorem d_X_opened_55 : decode prog_1_method_16_code 55 = .ok (.iand, 1) := by decide +kernel
theorem d_X_opened_56 : decode prog_1_method_16_code 56 = .ok (.iload_n 3, 1) := by decide +kernel
theorem d_X_opened_57 : decode prog_1_method_16_code 57 = .ok (.invokestatic 162, 3) := by decide +kernel
theorem d_X_opened_60 : decode prog_1_method_16_code 60 = .ok (.ireturn, 1) := by decide +kernel
theorem d_T_signAt_0 : decode prog_5_method_3_code 0 = .ok (.aload_n 0, 1) := by decide +kernel
theorem d_T_signAt_1 : decode prog_5_method_3_code 1 = .ok (.getfield 9, 3) := by decide +kernel
theorem d_T_signAt_4 : decode prog_5_method_3_code 4 = .ok (.iload_n 1, 1) := by decide +kernel
theorem d_T_signAt_5 : decode prog_5_method_3_code 5 = .ok (.bipush 60, 2) := by decide +kernel
theorem d_T_signAt_7 : decode prog_5_method_3_code 7 = .ok (.imul, 1) := by decide +kernel
theorem d_T_signAt_8 : decode prog_5_method_3_code 8 = .ok (.iload_n 2, 1) := by decide +kernel
theorem d_T_signAt_9 : decode prog_5_method_3_code 9 = .ok (.iadd, 1) := by decide +kernel
theorem d_T_signAt_10 : decode prog_5_method_3_code 10 = .ok (.iaload, 1) := by decide +kernel
theorem d_T_signAt_11 : decode prog_5_method_3_code 11 = .ok (.ireturn, 1) := by decide +kernel
theorem d_T_firstMismatch_0 : decode prog_5_method_7_code 0 = .ok (.iconst 0, 1) := by decide +kernel
theorem d_T_firstMismatch_1 : decode prog_5_method_7_code 1 = .ok (.istore 4, 2) := by decide +kernel
theorem d_T_firstMismatch_3 : decode prog_5_method_7_code 3 = .ok (.iload 4, 2) := by decide +kernel
theorem d_T_firstMismatch_5 : decode prog_5_method_7_code 5 = .ok (.aload_n 0, 1) := by decide +kernel
theorem d_T_firstMismatch_6 : decode prog_5_method_7_code 6 = .ok (.getfield 15, 3) := by decide +kernel
theorem d_T_firstMismatch_9 : decode prog_5_method_7_code 9 = .ok (.iload_n 1, 1) := by decide +kernel
theorem d_T_firstMismatch_10 : decode prog_5_method_7_code 10 = .ok (.iaload, 1) := by decide +kernel
theorem d_T_firstMismatch_11 : decode prog_5_method_7_code 11 = .ok (.if_icmp .ge 58, 3) := by decide +kernel
theorem d_T_firstMismatch_14 : decode prog_5_method_7_code 14 = .ok (.iload_n 3, 1) := by decide +kernel
theorem d_T_firstMismatch_15 : decode prog_5_method_7_code 15 = .ok (.iload 4, 2) := by decide +kernel
theorem d_T_firstMismatch_17 : decode prog_5_method_7_code 17 = .ok (.iadd, 1) := by decide +kernel
theorem d_T_firstMismatch_18 : decode prog_5_method_7_code 18 = .ok (.aload_n 0, 1) := by decide +kernel
theorem d_T_firstMismatch_19 : decode prog_5_method_7_code 19 = .ok (.getfield 15, 3) := by decide +kernel
theorem d_T_firstMismatch_22 : decode prog_5_method_7_code 22 = .ok (.iload_n 2, 1) := by decide +kernel
theorem d_T_firstMismatch_23 : decode prog_5_method_7_code 23 = .ok (.iaload, 1) := by decide +kernel
theorem d_T_firstMismatch_24 : decode prog_5_method_7_code 24 = .ok (.if_icmp .lt 7, 3) := by decide +kernel
theorem d_T_firstMismatch_27 : decode prog_5_method_7_code 27 = .ok (.iconst 1, 1) := by decide +kernel
theorem d_T_firstMismatch_28 : decode prog_5_method_7_code 28 = .ok (.goto 4, 3) := by decide +kernel
theorem d_T_firstMismatch_31 : decode prog_5_method_7_code 31 = .ok (.iconst 0, 1) := by decide +kernel
theorem d_T_firstMismatch_32 : decode prog_5_method_7_code 32 = .ok (.istore 5, 2) := by decide +kernel
theorem d_T_firstMismatch_34 : decode prog_5_method_7_code 34 = .ok (.iload 5, 2) := by decide +kernel
theorem d_T_firstMismatch_36 : decode prog_5_method_7_code 36 = .ok (.ifCond .ne 22, 3) := by decide +kernel
theorem d_T_firstMismatch_39 : decode prog_5_method_7_code 39 = .ok (.aload_n 0, 1) := by decide +kernel
theorem d_T_firstMismatch_40 : decode prog_5_method_7_code 40 = .ok (.iload_n 2, 1) := by decide +kernel
theorem d_T_firstMismatch_41 : decode prog_5_method_7_code 41 = .ok (.iload_n 3, 1) := by decide +kernel
theorem d_T_firstMismatch_42 : decode prog_5_method_7_code 42 = .ok (.iload 4, 2) := by decide +kernel
theorem d_T_firstMismatch_44 : decode prog_5_method_7_code 44 = .ok (.iadd, 1) := by decide +kernel
theorem d_T_firstMismatch_45 : decode prog_5_method_7_code 45 = .ok (.invokevirtual 24, 3) := by decide +kernel
theorem d_T_firstMismatch_48 : decode prog_5_method_7_code 48 = .ok (.aload_n 0, 1) := by decide +kernel
theorem d_T_firstMismatch_49 : decode prog_5_method_7_code 49 = .ok (.iload_n 1, 1) := by decide +kernel
theorem d_T_firstMismatch_50 : decode prog_5_method_7_code 50 = .ok (.iload 4, 2) := by decide +kernel
theorem d_T_firstMismatch_52 : decode prog_5_method_7_code 52 = .ok (.invokevirtual 24, 3) := by decide +kernel
theorem d_T_firstMismatch_55 : decode prog_5_method_7_code 55 = .ok (.if_icmp .eq 8, 3) := by decide +kernel
theorem d_T_firstMismatch_58 : decode prog_5_method_7_code 58 = .ok (.iload 4, 2) := by decide +kernel
theorem d_T_firstMismatch_60 : decode prog_5_method_7_code 60 = .ok (.iconst 1, 1) := by decide +kernel
theorem d_T_firstMismatch_61 : decode prog_5_method_7_code 61 = .ok (.iadd, 1) := by decide +kernel
theorem d_T_firstMismatch_62 : decode prog_5_method_7_code 62 = .ok (.ireturn, 1) := by decide +kernel
theorem d_T_firstMismatch_63 : decode prog_5_method_7_code 63 = .ok (.iinc 4 1, 3) := by decide +kernel
theorem d_T_firstMismatch_66 : decode prog_5_method_7_code 66 = .ok (.goto (-63), 3) := by decide +kernel
theorem d_T_firstMismatch_69 : decode prog_5_method_7_code 69 = .ok (.iconst 0, 1) := by decide +kernel
theorem d_T_firstMismatch_70 : decode prog_5_method_7_code 70 = .ok (.ireturn, 1) := by decide +kernel
theorem d_X_quote_0 : decode prog_1_method_17_code 0 = .ok (.aload_n 0, 1) := by decide +kernel
theorem d_X_quote_1 : decode prog_1_method_17_code 1 = .ok (.iload_n 1, 1) := by decide +kernel
theorem d_X_quote_2 : decode prog_1_method_17_code 2 = .ok (.invokevirtual 90, 3) := by decide +kernel
theorem d_X_quote_5 : decode prog_1_method_17_code 5 = .ok (.iload_n 2, 1) := by decide +kernel
theorem d_X_quote_6 : decode prog_1_method_17_code 6 = .ok (.iconst 0, 1) := by decide +kernel
theorem d_X_quote_7 : decode prog_1_method_17_code 7 = .ok (.aload_n 0, 1) := by decide +kernel
theorem d_X_quote_8 : decode prog_1_method_17_code 8 = .ok (.getfield 12, 3) := by decide +kernel
theorem d_X_quote_11 : decode prog_1_method_17_code 11 = .ok (.iload_n 1, 1) := by decide +kernel
theorem d_X_quote_12 : decode prog_1_method_17_code 12 = .ok (.invokevirtual 48, 3) := by decide +kernel
theorem d_X_quote_15 : decode prog_1_method_17_code 15 = .ok (.invokestatic 37, 3) := by decide +kernel
theorem d_X_quote_18 : decode prog_1_method_17_code 18 = .ok (.ifCond .ne 13, 3) := by decide +kernel
theorem d_X_quote_21 : decode prog_1_method_17_code 21 = .ok (.new 165, 3) := by decide +kernel
theorem d_X_quote_24 : decode prog_1_method_17_code 24 = .ok (.dup, 1) := by decide +kernel
theorem d_X_quote_25 : decode prog_1_method_17_code 25 = .ok (.ldc 167, 2) := by decide +kernel
theorem d_X_quote_27 : decode prog_1_method_17_code 27 = .ok (.invokespecial 169, 3) := by decide +kernel
theorem d_X_quote_30 : decode prog_1_method_17_code 30 = .ok (.athrow, 1) := by decide +kernel
theorem d_X_quote_31 : decode prog_1_method_17_code 31 = .ok (.aload_n 0, 1) := by decide +kernel
theorem d_X_quote_32 : decode prog_1_method_17_code 32 = .ok (.getfield 12, 3) := by decide +kernel
theorem d_X_quote_35 : decode prog_1_method_17_code 35 = .ok (.bipush 28, 2) := by decide +kernel
theorem d_X_quote_37 : decode prog_1_method_17_code 37 = .ok (.iload_n 1, 1) := by decide +kernel
theorem d_X_quote_38 : decode prog_1_method_17_code 38 = .ok (.iload_n 2, 1) := by decide +kernel
theorem d_X_quote_39 : decode prog_1_method_17_code 39 = .ok (.invokevirtual 170, 3) := by decide +kernel
theorem d_X_quote_42 : decode prog_1_method_17_code 42 = .ok (.ireturn, 1) := by decide +kernel
theorem d_X_requireForm_0 : decode prog_1_method_24_code 0 = .ok (.iload_n 0, 1) := by decide +kernel
theorem d_X_requireForm_1 : decode prog_1_method_24_code 1 = .ok (.iconst 0, 1) := by decide +kernel
theorem d_X_requireForm_2 : decode prog_1_method_24_code 2 = .ok (.iconst 3, 1) := by decide +kernel
theorem d_X_requireForm_3 : decode prog_1_method_24_code 3 = .ok (.invokestatic 37, 3) := by decide +kernel
theorem d_X_requireForm_6 : decode prog_1_method_24_code 6 = .ok (.ifCond .ne 13, 3) := by decide +kernel
theorem d_X_requireForm_9 : decode prog_1_method_24_code 9 = .ok (.new 165, 3) := by decide +kernel
theorem d_X_requireForm_12 : decode prog_1_method_24_code 12 = .ok (.dup, 1) := by decide +kernel
theorem d_X_requireForm_13 : decode prog_1_method_24_code 13 = .ok (.ldc 195, 2) := by decide +kernel
theorem d_X_requireForm_15 : decode prog_1_method_24_code 15 = .ok (.invokespecial 169, 3) := by decide +kernel
theorem d_X_requireForm_18 : decode prog_1_method_24_code 18 = .ok (.athrow, 1) := by decide +kernel
theorem d_X_requireForm_19 : decode prog_1_method_24_code 19 = .ok (.return_, 1) := by decide +kernel
theorem d_X_form_0 : decode prog_1_method_18_code 0 = .ok (.iload_n 1, 1) := by decide +kernel
theorem d_X_form_1 : decode prog_1_method_18_code 1 = .ok (.invokestatic 173, 3) := by decide +kernel
theorem d_X_form_4 : decode prog_1_method_18_code 4 = .ok (.aload_n 0, 1) := by decide +kernel
theorem d_X_form_5 : decode prog_1_method_18_code 5 = .ok (.getfield 12, 3) := by decide +kernel
theorem d_X_form_8 : decode prog_1_method_18_code 8 = .ok (.bipush 28, 2) := by decide +kernel
theorem d_X_form_10 : decode prog_1_method_18_code 10 = .ok (.bipush 24, 2) := by decide +kernel
theorem d_X_form_12 : decode prog_1_method_18_code 12 = .ok (.iload_n 1, 1) := by decide +kernel
theorem d_X_form_13 : decode prog_1_method_18_code 13 = .ok (.iadd, 1) := by decide +kernel
theorem d_X_form_14 : decode prog_1_method_18_code 14 = .ok (.invokevirtual 79, 3) := by decide +kernel
theorem d_X_form_17 : decode prog_1_method_18_code 17 = .ok (.ireturn, 1) := by decide +kernel
theorem d_X_digitsOf_0 : decode prog_1_method_33_code 0 = .ok (.iconst 1, 1) := by decide +kernel
theorem d_X_digitsOf_1 : decode prog_1_method_33_code 1 = .ok (.istore_n 1, 1) := by decide +kernel
theorem d_X_digitsOf_2 : decode prog_1_method_33_code 2 = .ok (.iload_n 0, 1) := by decide +kernel
theorem d_X_digitsOf_3 : decode prog_1_method_33_code 3 = .ok (.istore_n 2, 1) := by decide +kernel
theorem d_X_digitsOf_4 : decode prog_1_method_33_code 4 = .ok (.iload_n 2, 1) := by decide +kernel
theorem d_X_digitsOf_5 : decode prog_1_method_33_code 5 = .ok (.bipush 10, 2) := by decide +kernel
theorem d_X_digitsOf_7 : decode prog_1_method_33_code 7 = .ok (.if_icmp .lt 14, 3) := by decide +kernel
theorem d_X_digitsOf_10 : decode prog_1_method_33_code 10 = .ok (.iinc 1 1, 3) := by decide +kernel
theorem d_X_digitsOf_13 : decode prog_1_method_33_code 13 = .ok (.iload_n 2, 1) := by decide +kernel
theorem d_X_digitsOf_14 : decode prog_1_method_33_code 14 = .ok (.bipush 10, 2) := by decide +kernel
theorem d_X_digitsOf_16 : decode prog_1_method_33_code 16 = .ok (.idiv, 1) := by decide +kernel
theorem d_X_digitsOf_17 : decode prog_1_method_33_code 17 = .ok (.istore_n 2, 1) := by decide +kernel
theorem d_X_digitsOf_18 : decode prog_1_method_33_code 18 = .ok (.goto (-14), 3) := by decide +kernel
theorem d_X_digitsOf_21 : decode prog_1_method_33_code 21 = .ok (.iload_n 1, 1) := by decide +kernel
theorem d_X_digitsOf_22 : decode prog_1_method_33_code 22 = .ok (.ireturn, 1) := by decide +kernel
theorem d_S_dayOf_0 : decode prog_4_method_5_code 0 = .ok (.aload_n 0, 1) := by decide +kernel
theorem d_S_dayOf_1 : decode prog_4_method_5_code 1 = .ok (.getfield 15, 3) := by decide +kernel
theorem d_S_dayOf_4 : decode prog_4_method_5_code 4 = .ok (.iload_n 1, 1) := by decide +kernel
theorem d_S_dayOf_5 : decode prog_4_method_5_code 5 = .ok (.iaload, 1) := by decide +kernel
theorem d_S_dayOf_6 : decode prog_4_method_5_code 6 = .ok (.ireturn, 1) := by decide +kernel
theorem d_X_pieceWidth_0 : decode prog_1_method_31_code 0 = .ok (.iload_n 1, 1) := by decide +kernel
theorem d_X_pieceWidth_1 : decode prog_1_method_31_code 1 = .ok (.lookupswitch 44 #[(35, 27), (64, 32)], 27) := by decide +kernel
theorem d_X_pieceWidth_28 : decode prog_1_method_31_code 28 = .ok (.iload_n 2, 1) := by decide +kernel
theorem d_X_pieceWidth_29 : decode prog_1_method_31_code 29 = .ok (.invokestatic 224, 3) := by decide +kernel
theorem d_X_pieceWidth_32 : decode prog_1_method_31_code 32 = .ok (.ireturn, 1) := by decide +kernel
theorem d_X_pieceWidth_33 : decode prog_1_method_31_code 33 = .ok (.aload_n 0, 1) := by decide +kernel
theorem d_X_pieceWidth_34 : decode prog_1_method_31_code 34 = .ok (.getfield 19, 3) := by decide +kernel
theorem d_X_pieceWidth_37 : decode prog_1_method_31_code 37 = .ok (.iload_n 2, 1) := by decide +kernel
theorem d_X_pieceWidth_38 : decode prog_1_method_31_code 38 = .ok (.invokevirtual 227, 3) := by decide +kernel
theorem d_X_pieceWidth_41 : decode prog_1_method_31_code 41 = .ok (.invokestatic 224, 3) := by decide +kernel
theorem d_X_pieceWidth_44 : decode prog_1_method_31_code 44 = .ok (.ireturn, 1) := by decide +kernel
theorem d_X_pieceWidth_45 : decode prog_1_method_31_code 45 = .ok (.iconst 1, 1) := by decide +kernel
theorem d_X_pieceWidth_46 : decode prog_1_method_31_code 46 = .ok (.ireturn, 1) := by decide +kernel
theorem d_X_citationLength_0 : decode prog_1_method_29_code 0 = .ok (.bipush 24, 2) := by decide +kernel
theorem d_X_citationLength_2 : decode prog_1_method_29_code 2 = .ok (.iload_n 2, 1) := by decide +kernel
theorem d_X_citationLength_3 : decode prog_1_method_29_code 3 = .ok (.iadd, 1) := by decide +kernel
theorem d_X_citationLength_4 : decode prog_1_method_29_code 4 = .ok (.istore_n 3, 1) := by decide +kernel
theorem d_X_citationLength_5 : decode prog_1_method_29_code 5 = .ok (.iconst 0, 1) := by decide +kernel
theorem d_X_citationLength_6 : decode prog_1_method_29_code 6 = .ok (.istore 4, 2) := by decide +kernel
theorem d_X_citationLength_8 : decode prog_1_method_29_code 8 = .ok (.iconst 0, 1) := by decide +kernel
theorem d_X_citationLength_9 : decode prog_1_method_29_code 9 = .ok (.istore 5, 2) := by decide +kernel
theorem d_X_citationLength_11 : decode prog_1_method_29_code 11 = .ok (.iload 5, 2) := by decide +kernel
theorem d_X_citationLength_13 : decode prog_1_method_29_code 13 = .ok (.aload_n 0, 1) := by decide +kernel
theorem d_X_citationLength_14 : decode prog_1_method_29_code 14 = .ok (.getfield 12, 3) := by decide +kernel
theorem d_X_citationLength_17 : decode prog_1_method_29_code 17 = .ok (.iload_n 3, 1) := by decide +kernel
theorem d_X_citationLength_18 : decode prog_1_method_29_code 18 = .ok (.invokevirtual 48, 3) := by decide +kernel
theorem d_X_citationLength_21 : decode prog_1_method_29_code 21 = .ok (.if_icmp .ge 29, 3) := by decide +kernel
theorem d_X_citationLength_24 : decode prog_1_method_29_code 24 = .ok (.iload 4, 2) := by decide +kernel
theorem d_X_citationLength_26 : decode prog_1_method_29_code 26 = .ok (.aload_n 0, 1) := by decide +kernel
theorem d_X_citationLength_27 : decode prog_1_method_29_code 27 = .ok (.aload_n 0, 1) := by decide +kernel
theorem d_X_citationLength_28 : decode prog_1_method_29_code 28 = .ok (.getfield 12, 3) := by decide +kernel
theorem d_X_citationLength_31 : decode prog_1_method_29_code 31 = .ok (.iload_n 3, 1) := by decide +kernel
theorem d_X_citationLength_32 : decode prog_1_method_29_code 32 = .ok (.iload 5, 2) := by decide +kernel
theorem d_X_citationLength_34 : decode prog_1_method_29_code 34 = .ok (.invokevirtual 215, 3) := by decide +kernel
theorem d_X_citationLength_37 : decode prog_1_method_29_code 37 = .ok (.iload_n 1, 1) := by decide +kernel
theorem d_X_citationLength_38 : decode prog_1_method_29_code 38 = .ok (.invokevirtual 218, 3) := by decide +kernel
theorem d_X_citationLength_41 : decode prog_1_method_29_code 41 = .ok (.iadd, 1) := by decide +kernel
theorem d_X_citationLength_42 : decode prog_1_method_29_code 42 = .ok (.istore 4, 2) := by decide +kernel
theorem d_X_citationLength_44 : decode prog_1_method_29_code 44 = .ok (.iinc 5 1, 3) := by decide +kernel
theorem d_X_citationLength_47 : decode prog_1_method_29_code 47 = .ok (.goto (-36), 3) := by decide +kernel
theorem d_X_citationLength_50 : decode prog_1_method_29_code 50 = .ok (.iload 4, 2) := by decide +kernel
theorem d_X_citationLength_52 : decode prog_1_method_29_code 52 = .ok (.ireturn, 1) := by decide +kernel
theorem d_X_digitSign_0 : decode prog_1_method_34_code 0 = .ok (.iload_n 0, 1) := by decide +kernel
theorem d_X_digitSign_1 : decode prog_1_method_34_code 1 = .ok (.istore_n 2, 1) := by decide +kernel
theorem d_X_digitSign_2 : decode prog_1_method_34_code 2 = .ok (.iconst 0, 1) := by decide +kernel
theorem d_X_digitSign_3 : decode prog_1_method_34_code 3 = .ok (.istore_n 3, 1) := by decide +kernel
theorem d_X_digitSign_4 : decode prog_1_method_34_code 4 = .ok (.iload_n 3, 1) := by decide +kernel
theorem d_X_digitSign_5 : decode prog_1_method_34_code 5 = .ok (.iload_n 1, 1) := by decide +kernel
theorem d_X_digitSign_6 : decode prog_1_method_34_code 6 = .ok (.if_icmp .ge 14, 3) := by decide +kernel
theorem d_X_digitSign_9 : decode prog_1_method_34_code 9 = .ok (.iload_n 2, 1) := by decide +kernel
theorem d_X_digitSign_10 : decode prog_1_method_34_code 10 = .ok (.bipush 10, 2) := by decide +kernel
theorem d_X_digitSign_12 : decode prog_1_method_34_code 12 = .ok (.idiv, 1) := by decide +kernel
theorem d_X_digitSign_13 : decode prog_1_method_34_code 13 = .ok (.istore_n 2, 1) := by decide +kernel
theorem d_X_digitSign_14 : decode prog_1_method_34_code 14 = .ok (.iinc 3 1, 3) := by decide +kernel
theorem d_X_digitSign_17 : decode prog_1_method_34_code 17 = .ok (.goto (-13), 3) := by decide +kernel
theorem d_X_digitSign_20 : decode prog_1_method_34_code 20 = .ok (.bipush 48, 2) := by decide +kernel
theorem d_X_digitSign_22 : decode prog_1_method_34_code 22 = .ok (.iload_n 2, 1) := by decide +kernel
theorem d_X_digitSign_23 : decode prog_1_method_34_code 23 = .ok (.bipush 10, 2) := by decide +kernel
theorem d_X_digitSign_25 : decode prog_1_method_34_code 25 = .ok (.irem, 1) := by decide +kernel
theorem d_X_digitSign_26 : decode prog_1_method_34_code 26 = .ok (.iadd, 1) := by decide +kernel
theorem d_X_digitSign_27 : decode prog_1_method_34_code 27 = .ok (.ireturn, 1) := by decide +kernel
theorem d_S_kindOf_0 : decode prog_4_method_4_code 0 = .ok (.aload_n 0, 1) := by decide +kernel
theorem d_S_kindOf_1 : decode prog_4_method_4_code 1 = .ok (.getfield 9, 3) := by decide +kernel
theorem d_S_kindOf_4 : decode prog_4_method_4_code 4 = .ok (.iload_n 1, 1) := by decide +kernel
theorem d_S_kindOf_5 : decode prog_4_method_4_code 5 = .ok (.iaload, 1) := by decide +kernel
theorem d_S_kindOf_6 : decode prog_4_method_4_code 6 = .ok (.ireturn, 1) := by decide +kernel
theorem d_X_pieceSign_0 : decode prog_1_method_32_code 0 = .ok (.iload_n 1, 1) := by decide +kernel
theorem d_X_pieceSign_1 : decode prog_1_method_32_code 1 = .ok (.lookupswitch 66 #[(35, 35), (36, 54), (64, 41)], 35) := by decide +kernel
theorem d_X_pieceSign_36 : decode prog_1_method_32_code 36 = .ok (.iload_n 2, 1) := by decide +kernel
theorem d_X_pieceSign_37 : decode prog_1_method_32_code 37 = .ok (.iload_n 3, 1) := by decide +kernel
theorem d_X_pieceSign_38 : decode prog_1_method_32_code 38 = .ok (.invokestatic 230, 3) := by decide +kernel
theorem d_X_pieceSign_41 : decode prog_1_method_32_code 41 = .ok (.ireturn, 1) := by decide +kernel
theorem d_X_pieceSign_42 : decode prog_1_method_32_code 42 = .ok (.aload_n 0, 1) := by decide +kernel
theorem d_X_pieceSign_43 : decode prog_1_method_32_code 43 = .ok (.getfield 19, 3) := by decide +kernel
theorem d_X_pieceSign_46 : decode prog_1_method_32_code 46 = .ok (.iload_n 2, 1) := by decide +kernel
theorem d_X_pieceSign_47 : decode prog_1_method_32_code 47 = .ok (.invokevirtual 227, 3) := by decide +kernel
theorem d_X_pieceSign_50 : decode prog_1_method_32_code 50 = .ok (.iload_n 3, 1) := by decide +kernel
theorem d_X_pieceSign_51 : decode prog_1_method_32_code 51 = .ok (.invokestatic 230, 3) := by decide +kernel
theorem d_X_pieceSign_54 : decode prog_1_method_32_code 54 = .ok (.ireturn, 1) := by decide +kernel
theorem d_X_pieceSign_55 : decode prog_1_method_32_code 55 = .ok (.bipush 97, 2) := by decide +kernel
theorem d_X_pieceSign_57 : decode prog_1_method_32_code 57 = .ok (.aload_n 0, 1) := by decide +kernel
theorem d_X_pieceSign_58 : decode prog_1_method_32_code 58 = .ok (.getfield 19, 3) := by decide +kernel
theorem d_X_pieceSign_61 : decode prog_1_method_32_code 61 = .ok (.iload_n 2, 1) := by decide +kernel
theorem d_X_pieceSign_62 : decode prog_1_method_32_code 62 = .ok (.invokevirtual 233, 3) := by decide +kernel
theorem d_X_pieceSign_65 : decode prog_1_method_32_code 65 = .ok (.iadd, 1) := by decide +kernel
theorem d_X_pieceSign_66 : decode prog_1_method_32_code 66 = .ok (.ireturn, 1) := by decide +kernel
theorem d_X_pieceSign_67 : decode prog_1_method_32_code 67 = .ok (.iload_n 1, 1) := by decide +kernel
theorem d_X_pieceSign_68 : decode prog_1_method_32_code 68 = .ok (.ireturn, 1) := by decide +kernel
theorem d_X_citationSign_0 : decode prog_1_method_30_code 0 = .ok (.bipush 24, 2) := by decide +kernel
theorem d_X_citationSign_2 : decode prog_1_method_30_code 2 = .ok (.iload_n 2, 1) := by decide +kernel
theorem d_X_citationSign_3 : decode prog_1_method_30_code 3 = .ok (.iadd, 1) := by decide +kernel
theorem d_X_citationSign_4 : decode prog_1_method_30_code 4 = .ok (.istore 4, 2) := by decide +kernel
theorem d_X_citationSign_6 : decode prog_1_method_30_code 6 = .ok (.iload_n 3, 1) := by decide +kernel
theorem d_X_citationSign_7 : decode prog_1_method_30_code 7 = .ok (.istore 5, 2) := by decide +kernel
theorem d_X_citationSign_9 : decode prog_1_method_30_code 9 = .ok (.iconst 0, 1) := by decide +kernel
theorem d_X_citationSign_10 : decode prog_1_method_30_code 10 = .ok (.istore 6, 2) := by decide +kernel
theorem d_X_citationSign_12 : decode prog_1_method_30_code 12 = .ok (.iload 6, 2) := by decide +kernel
theorem d_X_citationSign_14 : decode prog_1_method_30_code 14 = .ok (.aload_n 0, 1) := by decide +kernel
theorem d_X_citationSign_15 : decode prog_1_method_30_code 15 = .ok (.getfield 12, 3) := by decide +kernel
theorem d_X_citationSign_18 : decode prog_1_method_30_code 18 = .ok (.iload 4, 2) := by decide +kernel
theorem d_X_citationSign_20 : decode prog_1_method_30_code 20 = .ok (.invokevirtual 48, 3) := by decide +kernel
theorem d_X_citationSign_23 : decode prog_1_method_30_code 23 = .ok (.if_icmp .ge 60, 3) := by decide +kernel
theorem d_X_citationSign_26 : decode prog_1_method_30_code 26 = .ok (.aload_n 0, 1) := by decide +kernel
theorem d_X_citationSign_27 : decode prog_1_method_30_code 27 = .ok (.getfield 12, 3) := by decide +kernel
theorem d_X_citationSign_30 : decode prog_1_method_30_code 30 = .ok (.iload 4, 2) := by decide +kernel
theorem d_X_citationSign_32 : decode prog_1_method_30_code 32 = .ok (.iload 6, 2) := by decide +kernel
theorem d_X_citationSign_34 : decode prog_1_method_30_code 34 = .ok (.invokevirtual 215, 3) := by decide +kernel
theorem d_X_citationSign_37 : decode prog_1_method_30_code 37 = .ok (.istore 7, 2) := by decide +kernel
theorem d_X_citationSign_39 : decode prog_1_method_30_code 39 = .ok (.aload_n 0, 1) := by decide +kernel
theorem d_X_citationSign_40 : decode prog_1_method_30_code 40 = .ok (.iload 7, 2) := by decide +kernel
theorem d_X_citationSign_42 : decode prog_1_method_30_code 42 = .ok (.iload_n 1, 1) := by decide +kernel
theorem d_X_citationSign_43 : decode prog_1_method_30_code 43 = .ok (.invokevirtual 218, 3) := by decide +kernel
theorem d_X_citationSign_46 : decode prog_1_method_30_code 46 = .ok (.istore 8, 2) := by decide +kernel
theorem d_X_citationSign_48 : decode prog_1_method_30_code 48 = .ok (.iload 5, 2) := by decide +kernel
theorem d_X_citationSign_50 : decode prog_1_method_30_code 50 = .ok (.iload 8, 2) := by decide +kernel
theorem d_X_citationSign_52 : decode prog_1_method_30_code 52 = .ok (.if_icmp .ge 18, 3) := by decide +kernel
theorem d_X_citationSign_55 : decode prog_1_method_30_code 55 = .ok (.aload_n 0, 1) := by decide +kernel
theorem d_X_citationSign_56 : decode prog_1_method_30_code 56 = .ok (.iload 7, 2) := by decide +kernel
theorem d_X_citationSign_58 : decode prog_1_method_30_code 58 = .ok (.iload_n 1, 1) := by decide +kernel
theorem d_X_citationSign_59 : decode prog_1_method_30_code 59 = .ok (.iload 8, 2) := by decide +kernel
theorem d_X_citationSign_61 : decode prog_1_method_30_code 61 = .ok (.iconst 1, 1) := by decide +kernel
theorem d_X_citationSign_62 : decode prog_1_method_30_code 62 = .ok (.isub, 1) := by decide +kernel
theorem d_X_citationSign_63 : decode prog_1_method_30_code 63 = .ok (.iload 5, 2) := by decide +kernel
theorem d_X_citationSign_65 : decode prog_1_method_30_code 65 = .ok (.isub, 1) := by decide +kernel
theorem d_X_citationSign_66 : decode prog_1_method_30_code 66 = .ok (.invokevirtual 221, 3) := by decide +kernel
theorem d_X_citationSign_69 : decode prog_1_method_30_code 69 = .ok (.ireturn, 1) := by decide +kernel
theorem d_X_citationSign_70 : decode prog_1_method_30_code 70 = .ok (.iload 5, 2) := by decide +kernel
theorem d_X_citationSign_72 : decode prog_1_method_30_code 72 = .ok (.iload 8, 2) := by decide +kernel
theorem d_X_citationSign_74 : decode prog_1_method_30_code 74 = .ok (.isub, 1) := by decide +kernel
theorem d_X_citationSign_75 : decode prog_1_method_30_code 75 = .ok (.istore 5, 2) := by decide +kernel
theorem d_X_citationSign_77 : decode prog_1_method_30_code 77 = .ok (.iinc 6 1, 3) := by decide +kernel
theorem d_X_citationSign_80 : decode prog_1_method_30_code 80 = .ok (.goto (-68), 3) := by decide +kernel
theorem d_X_citationSign_83 : decode prog_1_method_30_code 83 = .ok (.iconst (-1), 1) := by decide +kernel
theorem d_X_citationSign_84 : decode prog_1_method_30_code 84 = .ok (.ireturn, 1) := by decide +kernel
theorem d_X_cite_0 : decode prog_1_method_19_code 0 = .ok (.aload_n 0, 1) := by decide +kernel
theorem d_X_cite_1 : decode prog_1_method_19_code 1 = .ok (.iload_n 1, 1) := by decide +kernel
theorem d_X_cite_2 : decode prog_1_method_19_code 2 = .ok (.invokevirtual 90, 3) := by decide +kernel
theorem d_X_cite_5 : decode prog_1_method_19_code 5 = .ok (.iload_n 2, 1) := by decide +kernel
theorem d_X_cite_6 : decode prog_1_method_19_code 6 = .ok (.invokestatic 173, 3) := by decide +kernel
theorem d_X_cite_9 : decode prog_1_method_19_code 9 = .ok (.iload_n 3, 1) := by decide +kernel
theorem d_X_cite_10 : decode prog_1_method_19_code 10 = .ok (.iconst (-1), 1) := by decide +kernel
theorem d_X_cite_11 : decode prog_1_method_19_code 11 = .ok (.if_icmp .ne 10, 3) := by decide +kernel
theorem d_X_cite_14 : decode prog_1_method_19_code 14 = .ok (.aload_n 0, 1) := by decide +kernel
theorem d_X_cite_15 : decode prog_1_method_19_code 15 = .ok (.iload_n 1, 1) := by decide +kernel
theorem d_X_cite_16 : decode prog_1_method_19_code 16 = .ok (.iload_n 2, 1) := by decide +kernel
theorem d_X_cite_17 : decode prog_1_method_19_code 17 = .ok (.invokevirtual 176, 3) := by decide +kernel
theorem d_X_cite_20 : decode prog_1_method_19_code 20 = .ok (.ireturn, 1) := by decide +kernel
theorem d_X_cite_21 : decode prog_1_method_19_code 21 = .ok (.iload_n 3, 1) := by decide +kernel
theorem d_X_cite_22 : decode prog_1_method_19_code 22 = .ok (.invokestatic 107, 3) := by decide +kernel
theorem d_X_cite_25 : decode prog_1_method_19_code 25 = .ok (.aload_n 0, 1) := by decide +kernel
theorem d_X_cite_26 : decode prog_1_method_19_code 26 = .ok (.iload_n 1, 1) := by decide +kernel
theorem d_X_cite_27 : decode prog_1_method_19_code 27 = .ok (.iload_n 2, 1) := by decide +kernel
theorem d_X_cite_28 : decode prog_1_method_19_code 28 = .ok (.iload_n 3, 1) := by decide +kernel
theorem d_X_cite_29 : decode prog_1_method_19_code 29 = .ok (.invokevirtual 179, 3) := by decide +kernel
theorem d_X_cite_32 : decode prog_1_method_19_code 32 = .ok (.istore 4, 2) := by decide +kernel
theorem d_X_cite_34 : decode prog_1_method_19_code 34 = .ok (.iload 4, 2) := by decide +kernel
theorem d_X_cite_36 : decode prog_1_method_19_code 36 = .ok (.iconst (-1), 1) := by decide +kernel
theorem d_X_cite_37 : decode prog_1_method_19_code 37 = .ok (.if_icmp .ne 13, 3) := by decide +kernel
theorem d_X_cite_40 : decode prog_1_method_19_code 40 = .ok (.new 165, 3) := by decide +kernel
theorem d_X_cite_43 : decode prog_1_method_19_code 43 = .ok (.dup, 1) := by decide +kernel
theorem d_X_cite_44 : decode prog_1_method_19_code 44 = .ok (.ldc 182, 2) := by decide +kernel
theorem d_X_cite_46 : decode prog_1_method_19_code 46 = .ok (.invokespecial 169, 3) := by decide +kernel
theorem d_X_cite_49 : decode prog_1_method_19_code 49 = .ok (.athrow, 1) := by decide +kernel
theorem d_X_cite_50 : decode prog_1_method_19_code 50 = .ok (.iload 4, 2) := by decide +kernel
theorem d_X_cite_52 : decode prog_1_method_19_code 52 = .ok (.ireturn, 1) := by decide +kernel
theorem d_C_pairs_0 : decode prog_2_method_9_code 0 = .ok (.iconst 0, 1) := by decide +kernel
theorem d_C_pairs_1 : decode prog_2_method_9_code 1 = .ok (.istore_n 1, 1) := by decide +kernel
theorem d_C_pairs_2 : decode prog_2_method_9_code 2 = .ok (.iconst 0, 1) := by decide +kernel
theorem d_C_pairs_3 : decode prog_2_method_9_code 3 = .ok (.istore_n 2, 1) := by decide +kernel
theorem d_C_pairs_4 : decode prog_2_method_9_code 4 = .ok (.iload_n 2, 1) := by decide +kernel
theorem d_C_pairs_5 : decode prog_2_method_9_code 5 = .ok (.aload_n 0, 1) := by decide +kernel
theorem d_C_pairs_6 : decode prog_2_method_9_code 6 = .ok (.getfield 27, 3) := by decide +kernel
theorem d_C_pairs_9 : decode prog_2_method_9_code 9 = .ok (.if_icmp .ge 21, 3) := by decide +kernel
theorem d_C_pairs_12 : decode prog_2_method_9_code 12 = .ok (.iload_n 1, 1) := by decide +kernel
theorem d_C_pairs_13 : decode prog_2_method_9_code 13 = .ok (.aload_n 0, 1) := by decide +kernel
theorem d_C_pairs_14 : decode prog_2_method_9_code 14 = .ok (.getfield 15, 3) := by decide +kernel
theorem d_C_pairs_17 : decode prog_2_method_9_code 17 = .ok (.iload_n 2, 1) := by decide +kernel
theorem d_C_pairs_18 : decode prog_2_method_9_code 18 = .ok (.iaload, 1) := by decide +kernel
theorem d_C_pairs_19 : decode prog_2_method_9_code 19 = .ok (.invokestatic 42, 3) := by decide +kernel
theorem d_C_pairs_22 : decode prog_2_method_9_code 22 = .ok (.iadd, 1) := by decide +kernel
theorem d_C_pairs_23 : decode prog_2_method_9_code 23 = .ok (.istore_n 1, 1) := by decide +kernel
theorem d_C_pairs_24 : decode prog_2_method_9_code 24 = .ok (.iinc 2 1, 3) := by decide +kernel
theorem d_C_pairs_27 : decode prog_2_method_9_code 27 = .ok (.goto (-23), 3) := by decide +kernel
theorem d_C_pairs_30 : decode prog_2_method_9_code 30 = .ok (.iload_n 1, 1) := by decide +kernel
theorem d_C_pairs_31 : decode prog_2_method_9_code 31 = .ok (.ireturn, 1) := by decide +kernel
theorem d_X_count_0 : decode prog_1_method_20_code 0 = .ok (.iload_n 1, 1) := by decide +kernel
theorem d_X_count_1 : decode prog_1_method_20_code 1 = .ok (.tableswitch 77 0 4 #[35, 45, 53, 61, 69], 35) := by decide +kernel
theorem d_X_count_36 : decode prog_1_method_20_code 36 = .ok (.aload_n 0, 1) := by decide +kernel
theorem d_X_count_37 : decode prog_1_method_20_code 37 = .ok (.getfield 12, 3) := by decide +kernel
theorem d_X_count_40 : decode prog_1_method_20_code 40 = .ok (.bipush 28, 2) := by decide +kernel
theorem d_X_count_42 : decode prog_1_method_20_code 42 = .ok (.invokevirtual 48, 3) := by decide +kernel
theorem d_X_count_45 : decode prog_1_method_20_code 45 = .ok (.ireturn, 1) := by decide +kernel
theorem d_X_count_46 : decode prog_1_method_20_code 46 = .ok (.aload_n 0, 1) := by decide +kernel
theorem d_X_count_47 : decode prog_1_method_20_code 47 = .ok (.getfield 19, 3) := by decide +kernel
theorem d_X_count_50 : decode prog_1_method_20_code 50 = .ok (.invokevirtual 70, 3) := by decide +kernel
theorem d_X_count_53 : decode prog_1_method_20_code 53 = .ok (.ireturn, 1) := by decide +kernel
theorem d_X_count_54 : decode prog_1_method_20_code 54 = .ok (.aload_n 0, 1) := by decide +kernel
theorem d_X_count_55 : decode prog_1_method_20_code 55 = .ok (.getfield 26, 3) := by decide +kernel
theorem d_X_count_58 : decode prog_1_method_20_code 58 = .ok (.invokevirtual 82, 3) := by decide +kernel
theorem d_X_count_61 : decode prog_1_method_20_code 61 = .ok (.ireturn, 1) := by decide +kernel
theorem d_X_count_62 : decode prog_1_method_20_code 62 = .ok (.aload_n 0, 1) := by decide +kernel
theorem d_X_count_63 : decode prog_1_method_20_code 63 = .ok (.getfield 33, 3) := by decide +kernel
theorem d_X_count_66 : decode prog_1_method_20_code 66 = .ok (.invokevirtual 127, 3) := by decide +kernel
theorem d_X_count_69 : decode prog_1_method_20_code 69 = .ok (.ireturn, 1) := by decide +kernel
theorem d_X_count_70 : decode prog_1_method_20_code 70 = .ok (.aload_n 0, 1) := by decide +kernel
theorem d_X_count_71 : decode prog_1_method_20_code 71 = .ok (.getfield 26, 3) := by decide +kernel
theorem d_X_count_74 : decode prog_1_method_20_code 74 = .ok (.invokevirtual 184, 3) := by decide +kernel
theorem d_X_count_77 : decode prog_1_method_20_code 77 = .ok (.ireturn, 1) := by decide +kernel
theorem d_X_count_78 : decode prog_1_method_20_code 78 = .ok (.new 41, 3) := by decide +kernel
theorem d_X_count_81 : decode prog_1_method_20_code 81 = .ok (.dup, 1) := by decide +kernel
theorem d_X_count_82 : decode prog_1_method_20_code 82 = .ok (.ldc 187, 2) := by decide +kernel
theorem d_X_count_84 : decode prog_1_method_20_code 84 = .ok (.invokespecial 45, 3) := by decide +kernel
theorem d_X_count_87 : decode prog_1_method_20_code 87 = .ok (.athrow, 1) := by decide +kernel
theorem d_M_thrown_0 : decode prog_7_method_2_code 0 = .ok (.aload_n 0, 1) := by decide +kernel
theorem d_M_thrown_1 : decode prog_7_method_2_code 1 = .ok (.getfield 77, 3) := by decide +kernel
theorem d_M_thrown_4 : decode prog_7_method_2_code 4 = .ok (.ireturn, 1) := by decide +kernel
theorem d_M_goes_0 : decode prog_7_method_3_code 0 = .ok (.aload_n 0, 1) := by decide +kernel
theorem d_M_goes_1 : decode prog_7_method_3_code 1 = .ok (.iload_n 1, 1) := by decide +kernel
theorem d_M_goes_2 : decode prog_7_method_3_code 2 = .ok (.ifCond .ne 7, 3) := by decide +kernel
theorem d_M_goes_5 : decode prog_7_method_3_code 5 = .ok (.iconst 1, 1) := by decide +kernel
theorem d_M_goes_6 : decode prog_7_method_3_code 6 = .ok (.goto 20, 3) := by decide +kernel
theorem d_M_goes_9 : decode prog_7_method_3_code 9 = .ok (.iload_n 2, 1) := by decide +kernel
theorem d_M_goes_10 : decode prog_7_method_3_code 10 = .ok (.ifCond .ne 7, 3) := by decide +kernel
theorem d_M_goes_13 : decode prog_7_method_3_code 13 = .ok (.iconst 2, 1) := by decide +kernel
theorem d_M_goes_14 : decode prog_7_method_3_code 14 = .ok (.goto 12, 3) := by decide +kernel
theorem d_M_goes_17 : decode prog_7_method_3_code 17 = .ok (.iload_n 3, 1) := by decide +kernel
theorem d_M_goes_18 : decode prog_7_method_3_code 18 = .ok (.ifCond .ne 7, 3) := by decide +kernel
theorem d_M_goes_21 : decode prog_7_method_3_code 21 = .ok (.iconst 3, 1) := by decide +kernel
theorem d_M_goes_22 : decode prog_7_method_3_code 22 = .ok (.goto 4, 3) := by decide +kernel
theorem d_M_goes_25 : decode prog_7_method_3_code 25 = .ok (.iconst 0, 1) := by decide +kernel
theorem d_M_goes_26 : decode prog_7_method_3_code 26 = .ok (.putfield 77, 3) := by decide +kernel
theorem d_M_goes_29 : decode prog_7_method_3_code 29 = .ok (.aload_n 0, 1) := by decide +kernel
theorem d_M_goes_30 : decode prog_7_method_3_code 30 = .ok (.getfield 77, 3) := by decide +kernel
theorem d_M_goes_33 : decode prog_7_method_3_code 33 = .ok (.ifCond .ne 7, 3) := by decide +kernel
theorem d_M_goes_36 : decode prog_7_method_3_code 36 = .ok (.iconst 1, 1) := by decide +kernel
theorem d_M_goes_37 : decode prog_7_method_3_code 37 = .ok (.goto 4, 3) := by decide +kernel
theorem d_M_goes_40 : decode prog_7_method_3_code 40 = .ok (.iconst 0, 1) := by decide +kernel
theorem d_M_goes_41 : decode prog_7_method_3_code 41 = .ok (.ireturn, 1) := by decide +kernel
theorem d_M_within_0 : decode prog_7_method_4_code 0 = .ok (.iload_n 0, 1) := by decide +kernel
theorem d_M_within_1 : decode prog_7_method_4_code 1 = .ok (.iload_n 1, 1) := by decide +kernel
theorem d_M_within_2 : decode prog_7_method_4_code 2 = .ok (.if_icmp .lt 12, 3) := by decide +kernel
theorem d_M_within_5 : decode prog_7_method_4_code 5 = .ok (.iload_n 0, 1) := by decide +kernel
theorem d_M_within_6 : decode prog_7_method_4_code 6 = .ok (.iload_n 2, 1) := by decide +kernel
theorem d_M_within_7 : decode prog_7_method_4_code 7 = .ok (.if_icmp .gt 7, 3) := by decide +kernel
theorem d_M_within_10 : decode prog_7_method_4_code 10 = .ok (.iconst 1, 1) := by decide +kernel
theorem d_M_within_11 : decode prog_7_method_4_code 11 = .ok (.goto 4, 3) := by decide +kernel
theorem d_M_within_14 : decode prog_7_method_4_code 14 = .ok (.iconst 0, 1) := by decide +kernel
theorem d_M_within_15 : decode prog_7_method_4_code 15 = .ok (.ireturn, 1) := by decide +kernel
theorem d_M_isDay_0 : decode prog_7_method_5_code 0 = .ok (.iload_n 0, 1) := by decide +kernel
theorem d_M_isDay_1 : decode prog_7_method_5_code 1 = .ok (.ifCond .lt 13, 3) := by decide +kernel
theorem d_M_isDay_4 : decode prog_7_method_5_code 4 = .ok (.iload_n 0, 1) := by decide +kernel
theorem d_M_isDay_5 : decode prog_7_method_5_code 5 = .ok (.ldc 81, 2) := by decide +kernel
theorem d_M_isDay_7 : decode prog_7_method_5_code 7 = .ok (.if_icmp .gt 7, 3) := by decide +kernel
theorem d_M_isDay_10 : decode prog_7_method_5_code 10 = .ok (.iconst 1, 1) := by decide +kernel
theorem d_M_isDay_11 : decode prog_7_method_5_code 11 = .ok (.goto 4, 3) := by decide +kernel
theorem d_M_isDay_14 : decode prog_7_method_5_code 14 = .ok (.iconst 0, 1) := by decide +kernel
theorem d_M_isDay_15 : decode prog_7_method_5_code 15 = .ok (.ireturn, 1) := by decide +kernel
theorem d_M_isSource_0 : decode prog_7_method_6_code 0 = .ok (.iload_n 1, 1) := by decide +kernel
theorem d_M_isSource_1 : decode prog_7_method_6_code 1 = .ok (.ifCond .lt 15, 3) := by decide +kernel
theorem d_M_isSource_4 : decode prog_7_method_6_code 4 = .ok (.iload_n 1, 1) := by decide +kernel
theorem d_M_isSource_5 : decode prog_7_method_6_code 5 = .ok (.aload_n 0, 1) := by decide +kernel
theorem d_M_isSource_6 : decode prog_7_method_6_code 6 = .ok (.getfield 82, 3) := by decide +kernel
theorem d_M_isSource_9 : decode prog_7_method_6_code 9 = .ok (.if_icmp .ge 7, 3) := by decide +kernel
theorem d_M_isSource_12 : decode prog_7_method_6_code 12 = .ok (.iconst 1, 1) := by decide +kernel
theorem d_M_isSource_13 : decode prog_7_method_6_code 13 = .ok (.goto 4, 3) := by decide +kernel
theorem d_M_isSource_16 : decode prog_7_method_6_code 16 = .ok (.iconst 0, 1) := by decide +kernel
theorem d_M_isSource_17 : decode prog_7_method_6_code 17 = .ok (.ireturn, 1) := by decide +kernel
theorem d_M_isClaim_0 : decode prog_7_method_7_code 0 = .ok (.iload_n 1, 1) := by decide +kernel
theorem d_M_isClaim_1 : decode prog_7_method_7_code 1 = .ok (.ifCond .lt 15, 3) := by decide +kernel
theorem d_M_isClaim_4 : decode prog_7_method_7_code 4 = .ok (.iload_n 1, 1) := by decide +kernel
theorem d_M_isClaim_5 : decode prog_7_method_7_code 5 = .ok (.aload_n 0, 1) := by decide +kernel
theorem d_M_isClaim_6 : decode prog_7_method_7_code 6 = .ok (.getfield 85, 3) := by decide +kernel
theorem d_M_isClaim_9 : decode prog_7_method_7_code 9 = .ok (.if_icmp .ge 7, 3) := by decide +kernel
theorem d_M_isClaim_12 : decode prog_7_method_7_code 12 = .ok (.iconst 1, 1) := by decide +kernel
theorem d_M_isClaim_13 : decode prog_7_method_7_code 13 = .ok (.goto 4, 3) := by decide +kernel
theorem d_M_isClaim_16 : decode prog_7_method_7_code 16 = .ok (.iconst 0, 1) := by decide +kernel
theorem d_M_isClaim_17 : decode prog_7_method_7_code 17 = .ok (.ireturn, 1) := by decide +kernel
theorem d_M_unit_0 : decode prog_7_method_8_code 0 = .ok (.aload_n 0, 1) := by decide +kernel
theorem d_M_unit_1 : decode prog_7_method_8_code 1 = .ok (.iload_n 1, 1) := by decide +kernel
theorem d_M_unit_2 : decode prog_7_method_8_code 2 = .ok (.iconst 1, 1) := by decide +kernel
theorem d_M_unit_3 : decode prog_7_method_8_code 3 = .ok (.bipush 127, 2) := by decide +kernel
theorem d_M_unit_5 : decode prog_7_method_8_code 5 = .ok (.invokestatic 88, 3) := by decide +kernel
theorem d_M_unit_8 : decode prog_7_method_8_code 8 = .ok (.aload_n 0, 1) := by decide +kernel
theorem d_M_unit_9 : decode prog_7_method_8_code 9 = .ok (.getfield 92, 3) := by decide +kernel
theorem d_M_unit_12 : decode prog_7_method_8_code 12 = .ok (.bipush 60, 2) := by decide +kernel
theorem d_M_unit_14 : decode prog_7_method_8_code 14 = .ok (.if_icmp .ge 7, 3) := by decide +kernel
theorem d_M_unit_17 : decode prog_7_method_8_code 17 = .ok (.iconst 1, 1) := by decide +kernel
theorem d_M_unit_18 : decode prog_7_method_8_code 18 = .ok (.goto 4, 3) := by decide +kernel
theorem d_M_unit_21 : decode prog_7_method_8_code 21 = .ok (.iconst 0, 1) := by decide +kernel
theorem d_M_unit_22 : decode prog_7_method_8_code 22 = .ok (.iconst 1, 1) := by decide +kernel
theorem d_M_unit_23 : decode prog_7_method_8_code 23 = .ok (.invokevirtual 95, 3) := by decide +kernel
theorem d_M_unit_26 : decode prog_7_method_8_code 26 = .ok (.ifCond .ne 5, 3) := by decide +kernel
theorem d_M_unit_29 : decode prog_7_method_8_code 29 = .ok (.iconst 0, 1) := by decide +kernel
theorem d_M_unit_30 : decode prog_7_method_8_code 30 = .ok (.ireturn, 1) := by decide +kernel
theorem d_M_unit_31 : decode prog_7_method_8_code 31 = .ok (.aload_n 0, 1) := by decide +kernel
theorem d_M_unit_32 : decode prog_7_method_8_code 32 = .ok (.getfield 7, 3) := by decide +kernel
theorem d_M_unit_35 : decode prog_7_method_8_code 35 = .ok (.aload_n 0, 1) := by decide +kernel
theorem d_M_unit_36 : decode prog_7_method_8_code 36 = .ok (.getfield 92, 3) := by decide +kernel
theorem d_M_unit_39 : decode prog_7_method_8_code 39 = .ok (.iload_n 1, 1) := by decide +kernel
theorem d_M_unit_40 : decode prog_7_method_8_code 40 = .ok (.iastore, 1) := by decide +kernel
theorem d_M_unit_41 : decode prog_7_method_8_code 41 = .ok (.aload_n 0, 1) := by decide +kernel
theorem d_M_unit_42 : decode prog_7_method_8_code 42 = .ok (.dup, 1) := by decide +kernel
theorem d_M_unit_43 : decode prog_7_method_8_code 43 = .ok (.getfield 92, 3) := by decide +kernel
theorem d_M_unit_46 : decode prog_7_method_8_code 46 = .ok (.iconst 1, 1) := by decide +kernel
theorem d_M_unit_47 : decode prog_7_method_8_code 47 = .ok (.iadd, 1) := by decide +kernel
theorem d_M_unit_48 : decode prog_7_method_8_code 48 = .ok (.putfield 92, 3) := by decide +kernel
theorem d_M_unit_51 : decode prog_7_method_8_code 51 = .ok (.aload_n 0, 1) := by decide +kernel
theorem d_M_unit_52 : decode prog_7_method_8_code 52 = .ok (.getfield 92, 3) := by decide +kernel
theorem d_M_unit_55 : decode prog_7_method_8_code 55 = .ok (.ireturn, 1) := by decide +kernel
theorem d_M_clear_0 : decode prog_7_method_9_code 0 = .ok (.aload_n 0, 1) := by decide +kernel
theorem d_M_clear_1 : decode prog_7_method_9_code 1 = .ok (.iconst 0, 1) := by decide +kernel
theorem d_M_clear_2 : decode prog_7_method_9_code 2 = .ok (.putfield 77, 3) := by decide +kernel
theorem d_M_clear_5 : decode prog_7_method_9_code 5 = .ok (.aload_n 0, 1) := by decide +kernel
theorem d_M_clear_6 : decode prog_7_method_9_code 6 = .ok (.getfield 92, 3) := by decide +kernel
theorem d_M_clear_9 : decode prog_7_method_9_code 9 = .ok (.istore_n 1, 1) := by decide +kernel
theorem d_M_clear_10 : decode prog_7_method_9_code 10 = .ok (.aload_n 0, 1) := by decide +kernel
theorem d_M_clear_11 : decode prog_7_method_9_code 11 = .ok (.iconst 0, 1) := by decide +kernel
theorem d_M_clear_12 : decode prog_7_method_9_code 12 = .ok (.putfield 92, 3) := by decide +kernel
theorem d_M_clear_15 : decode prog_7_method_9_code 15 = .ok (.iload_n 1, 1) := by decide +kernel
theorem d_M_clear_16 : decode prog_7_method_9_code 16 = .ok (.ireturn, 1) := by decide +kernel
theorem d_M_source_0 : decode prog_7_method_10_code 0 = .ok (.aload_n 0, 1) := by decide +kernel
theorem d_M_source_1 : decode prog_7_method_10_code 1 = .ok (.iload_n 1, 1) := by decide +kernel
theorem d_M_source_2 : decode prog_7_method_10_code 2 = .ok (.iconst 0, 1) := by decide +kernel
theorem d_M_source_3 : decode prog_7_method_10_code 3 = .ok (.bipush 25, 2) := by decide +kernel
theorem d_M_source_5 : decode prog_7_method_10_code 5 = .ok (.invokestatic 88, 3) := by decide +kernel
theorem d_M_source_8 : decode prog_7_method_10_code 8 = .ok (.ifCond .eq 14, 3) := by decide +kernel
theorem d_M_source_11 : decode prog_7_method_10_code 11 = .ok (.iload_n 2, 1) := by decide +kernel
theorem d_M_source_12 : decode prog_7_method_10_code 12 = .ok (.invokestatic 99, 3) := by decide +kernel
theorem d_M_source_15 : decode prog_7_method_10_code 15 = .ok (.ifCond .eq 7, 3) := by decide +kernel
theorem d_M_source_18 : decode prog_7_method_10_code 18 = .ok (.iconst 1, 1) := by decide +kernel
theorem d_M_source_19 : decode prog_7_method_10_code 19 = .ok (.goto 4, 3) := by decide +kernel
theorem d_M_source_22 : decode prog_7_method_10_code 22 = .ok (.iconst 0, 1) := by decide +kernel
theorem d_M_source_23 : decode prog_7_method_10_code 23 = .ok (.aload_n 0, 1) := by decide +kernel
theorem d_M_source_24 : decode prog_7_method_10_code 24 = .ok (.getfield 82, 3) := by decide +kernel
theorem d_M_source_27 : decode prog_7_method_10_code 27 = .ok (.bipush 24, 2) := by decide +kernel
theorem d_M_source_29 : decode prog_7_method_10_code 29 = .ok (.if_icmp .ge 7, 3) := by decide +kernel
theorem d_M_source_32 : decode prog_7_method_10_code 32 = .ok (.iconst 1, 1) := by decide +kernel
theorem d_M_source_33 : decode prog_7_method_10_code 33 = .ok (.goto 4, 3) := by decide +kernel
theorem d_M_source_36 : decode prog_7_method_10_code 36 = .ok (.iconst 0, 1) := by decide +kernel
theorem d_M_source_37 : decode prog_7_method_10_code 37 = .ok (.iconst 1, 1) := by decide +kernel
theorem d_M_source_38 : decode prog_7_method_10_code 38 = .ok (.invokevirtual 95, 3) := by decide +kernel
theorem d_M_source_41 : decode prog_7_method_10_code 41 = .ok (.ifCond .ne 5, 3) := by decide +kernel
theorem d_M_source_44 : decode prog_7_method_10_code 44 = .ok (.iconst 0, 1) := by decide +kernel
theorem d_M_source_45 : decode prog_7_method_10_code 45 = .ok (.ireturn, 1) := by decide +kernel
theorem d_M_source_46 : decode prog_7_method_10_code 46 = .ok (.aload_n 0, 1) := by decide +kernel
theorem d_M_source_47 : decode prog_7_method_10_code 47 = .ok (.getfield 13, 3) := by decide +kernel
theorem d_M_source_50 : decode prog_7_method_10_code 50 = .ok (.aload_n 0, 1) := by decide +kernel
theorem d_M_source_51 : decode prog_7_method_10_code 51 = .ok (.getfield 82, 3) := by decide +kernel
theorem d_M_source_54 : decode prog_7_method_10_code 54 = .ok (.iload_n 1, 1) := by decide +kernel
theorem d_M_source_55 : decode prog_7_method_10_code 55 = .ok (.iastore, 1) := by decide +kernel
theorem d_M_source_56 : decode prog_7_method_10_code 56 = .ok (.aload_n 0, 1) := by decide +kernel
theorem d_M_source_57 : decode prog_7_method_10_code 57 = .ok (.getfield 16, 3) := by decide +kernel
theorem d_M_source_60 : decode prog_7_method_10_code 60 = .ok (.aload_n 0, 1) := by decide +kernel
theorem d_M_source_61 : decode prog_7_method_10_code 61 = .ok (.getfield 82, 3) := by decide +kernel
theorem d_M_source_64 : decode prog_7_method_10_code 64 = .ok (.iload_n 2, 1) := by decide +kernel
theorem d_M_source_65 : decode prog_7_method_10_code 65 = .ok (.iastore, 1) := by decide +kernel
theorem d_M_source_66 : decode prog_7_method_10_code 66 = .ok (.aload_n 0, 1) := by decide +kernel
theorem d_M_source_67 : decode prog_7_method_10_code 67 = .ok (.getfield 19, 3) := by decide +kernel
theorem d_M_source_70 : decode prog_7_method_10_code 70 = .ok (.aload_n 0, 1) := by decide +kernel
theorem d_M_source_71 : decode prog_7_method_10_code 71 = .ok (.getfield 82, 3) := by decide +kernel
theorem d_M_source_74 : decode prog_7_method_10_code 74 = .ok (.iconst (-1), 1) := by decide +kernel
theorem d_M_source_75 : decode prog_7_method_10_code 75 = .ok (.iastore, 1) := by decide +kernel
theorem d_M_source_76 : decode prog_7_method_10_code 76 = .ok (.aload_n 0, 1) := by decide +kernel
theorem d_M_source_77 : decode prog_7_method_10_code 77 = .ok (.getfield 22, 3) := by decide +kernel
theorem d_M_source_80 : decode prog_7_method_10_code 80 = .ok (.aload_n 0, 1) := by decide +kernel
theorem d_M_source_81 : decode prog_7_method_10_code 81 = .ok (.getfield 82, 3) := by decide +kernel
theorem d_M_source_84 : decode prog_7_method_10_code 84 = .ok (.aload_n 0, 1) := by decide +kernel
theorem d_M_source_85 : decode prog_7_method_10_code 85 = .ok (.getfield 92, 3) := by decide +kernel
theorem d_M_source_88 : decode prog_7_method_10_code 88 = .ok (.iastore, 1) := by decide +kernel
theorem d_M_source_89 : decode prog_7_method_10_code 89 = .ok (.iconst 0, 1) := by decide +kernel
theorem d_M_source_90 : decode prog_7_method_10_code 90 = .ok (.istore_n 3, 1) := by decide +kernel
theorem d_M_source_91 : decode prog_7_method_10_code 91 = .ok (.iload_n 3, 1) := by decide +kernel
theorem d_M_source_92 : decode prog_7_method_10_code 92 = .ok (.aload_n 0, 1) := by decide +kernel
theorem d_M_source_93 : decode prog_7_method_10_code 93 = .ok (.getfield 92, 3) := by decide +kernel
theorem d_M_source_96 : decode prog_7_method_10_code 96 = .ok (.if_icmp .ge 29, 3) := by decide +kernel
theorem d_M_source_99 : decode prog_7_method_10_code 99 = .ok (.aload_n 0, 1) := by decide +kernel
theorem d_M_source_100 : decode prog_7_method_10_code 100 = .ok (.getfield 25, 3) := by decide +kernel
theorem d_M_source_103 : decode prog_7_method_10_code 103 = .ok (.bipush 60, 2) := by decide +kernel
theorem d_M_source_105 : decode prog_7_method_10_code 105 = .ok (.aload_n 0, 1) := by decide +kernel
theorem d_M_source_106 : decode prog_7_method_10_code 106 = .ok (.getfield 82, 3) := by decide +kernel
theorem d_M_source_109 : decode prog_7_method_10_code 109 = .ok (.imul, 1) := by decide +kernel
theorem d_M_source_110 : decode prog_7_method_10_code 110 = .ok (.iload_n 3, 1) := by decide +kernel
theorem d_M_source_111 : decode prog_7_method_10_code 111 = .ok (.iadd, 1) := by decide +kernel
theorem d_M_source_112 : decode prog_7_method_10_code 112 = .ok (.aload_n 0, 1) := by decide +kernel
theorem d_M_source_113 : decode prog_7_method_10_code 113 = .ok (.getfield 7, 3) := by decide +kernel
theorem d_M_source_116 : decode prog_7_method_10_code 116 = .ok (.iload_n 3, 1) := by decide +kernel
theorem d_M_source_117 : decode prog_7_method_10_code 117 = .ok (.iaload, 1) := by decide +kernel
theorem d_M_source_118 : decode prog_7_method_10_code 118 = .ok (.iastore, 1) := by decide +kernel
theorem d_M_source_119 : decode prog_7_method_10_code 119 = .ok (.iinc 3 1, 3) := by decide +kernel
theorem d_M_source_122 : decode prog_7_method_10_code 122 = .ok (.goto (-31), 3) := by decide +kernel
theorem d_M_source_125 : decode prog_7_method_10_code 125 = .ok (.aload_n 0, 1) := by decide +kernel
theorem d_M_source_126 : decode prog_7_method_10_code 126 = .ok (.iconst 0, 1) := by decide +kernel
theorem d_M_source_127 : decode prog_7_method_10_code 127 = .ok (.putfield 92, 3) := by decide +kernel
theorem d_M_source_130 : decode prog_7_method_10_code 130 = .ok (.aload_n 0, 1) := by decide +kernel
theorem d_M_source_131 : decode prog_7_method_10_code 131 = .ok (.dup, 1) := by decide +kernel
theorem d_M_source_132 : decode prog_7_method_10_code 132 = .ok (.getfield 82, 3) := by decide +kernel
theorem d_M_source_135 : decode prog_7_method_10_code 135 = .ok (.iconst 1, 1) := by decide +kernel
theorem d_M_source_136 : decode prog_7_method_10_code 136 = .ok (.iadd, 1) := by decide +kernel
theorem d_M_source_137 : decode prog_7_method_10_code 137 = .ok (.putfield 82, 3) := by decide +kernel
theorem d_M_source_140 : decode prog_7_method_10_code 140 = .ok (.aload_n 0, 1) := by decide +kernel
theorem d_M_source_141 : decode prog_7_method_10_code 141 = .ok (.getfield 82, 3) := by decide +kernel
theorem d_M_source_144 : decode prog_7_method_10_code 144 = .ok (.iconst 1, 1) := by decide +kernel
theorem d_M_source_145 : decode prog_7_method_10_code 145 = .ok (.isub, 1) := by decide +kernel
theorem d_M_source_146 : decode prog_7_method_10_code 146 = .ok (.ireturn, 1) := by decide +kernel
theorem d_M_claim_0 : decode prog_7_method_11_code 0 = .ok (.aload_n 0, 1) := by decide +kernel
theorem d_M_claim_1 : decode prog_7_method_11_code 1 = .ok (.aload_n 0, 1) := by decide +kernel
theorem d_M_claim_2 : decode prog_7_method_11_code 2 = .ok (.getfield 85, 3) := by decide +kernel
theorem d_M_claim_5 : decode prog_7_method_11_code 5 = .ok (.bipush 24, 2) := by decide +kernel
theorem d_M_claim_7 : decode prog_7_method_11_code 7 = .ok (.if_icmp .ge 7, 3) := by decide +kernel
theorem d_M_claim_10 : decode prog_7_method_11_code 10 = .ok (.iconst 1, 1) := by decide +kernel
theorem d_M_claim_11 : decode prog_7_method_11_code 11 = .ok (.goto 4, 3) := by decide +kernel
theorem d_M_claim_14 : decode prog_7_method_11_code 14 = .ok (.iconst 0, 1) := by decide +kernel
theorem d_M_claim_15 : decode prog_7_method_11_code 15 = .ok (.iconst 1, 1) := by decide +kernel
theorem d_M_claim_16 : decode prog_7_method_11_code 16 = .ok (.iconst 1, 1) := by decide +kernel
theorem d_M_claim_17 : decode prog_7_method_11_code 17 = .ok (.invokevirtual 95, 3) := by decide +kernel
theorem d_M_claim_20 : decode prog_7_method_11_code 20 = .ok (.ifCond .ne 5, 3) := by decide +kernel
theorem d_M_claim_23 : decode prog_7_method_11_code 23 = .ok (.iconst 0, 1) := by decide +kernel
theorem d_M_claim_24 : decode prog_7_method_11_code 24 = .ok (.ireturn, 1) := by decide +kernel
theorem d_M_claim_25 : decode prog_7_method_11_code 25 = .ok (.aload_n 0, 1) := by decide +kernel
theorem d_M_claim_26 : decode prog_7_method_11_code 26 = .ok (.dup, 1) := by decide +kernel
theorem d_M_claim_27 : decode prog_7_method_11_code 27 = .ok (.getfield 85, 3) := by decide +kernel
theorem d_M_claim_30 : decode prog_7_method_11_code 30 = .ok (.iconst 1, 1) := by decide +kernel
theorem d_M_claim_31 : decode prog_7_method_11_code 31 = .ok (.iadd, 1) := by decide +kernel
theorem d_M_claim_32 : decode prog_7_method_11_code 32 = .ok (.putfield 85, 3) := by decide +kernel
theorem d_M_claim_35 : decode prog_7_method_11_code 35 = .ok (.aload_n 0, 1) := by decide +kernel
theorem d_M_claim_36 : decode prog_7_method_11_code 36 = .ok (.getfield 85, 3) := by decide +kernel
theorem d_M_claim_39 : decode prog_7_method_11_code 39 = .ok (.iconst 1, 1) := by decide +kernel
theorem d_M_claim_40 : decode prog_7_method_11_code 40 = .ok (.isub, 1) := by decide +kernel
theorem d_M_claim_41 : decode prog_7_method_11_code 41 = .ok (.ireturn, 1) := by decide +kernel
theorem d_M_rests_0 : decode prog_7_method_12_code 0 = .ok (.aload_n 0, 1) := by decide +kernel
theorem d_M_rests_1 : decode prog_7_method_12_code 1 = .ok (.aload_n 0, 1) := by decide +kernel
theorem d_M_rests_2 : decode prog_7_method_12_code 2 = .ok (.iload_n 1, 1) := by decide +kernel
theorem d_M_rests_3 : decode prog_7_method_12_code 3 = .ok (.invokevirtual 103, 3) := by decide +kernel
theorem d_M_rests_6 : decode prog_7_method_12_code 6 = .ok (.ifCond .eq 15, 3) := by decide +kernel
theorem d_M_rests_9 : decode prog_7_method_12_code 9 = .ok (.aload_n 0, 1) := by decide +kernel
theorem d_M_rests_10 : decode prog_7_method_12_code 10 = .ok (.iload_n 2, 1) := by decide +kernel
theorem d_M_rests_11 : decode prog_7_method_12_code 11 = .ok (.invokevirtual 106, 3) := by decide +kernel
theorem d_M_rests_14 : decode prog_7_method_12_code 14 = .ok (.ifCond .eq 7, 3) := by decide +kernel
theorem d_M_rests_17 : decode prog_7_method_12_code 17 = .ok (.iconst 1, 1) := by decide +kernel
theorem d_M_rests_18 : decode prog_7_method_12_code 18 = .ok (.goto 4, 3) := by decide +kernel
theorem d_M_rests_21 : decode prog_7_method_12_code 21 = .ok (.iconst 0, 1) := by decide +kernel
theorem d_M_rests_22 : decode prog_7_method_12_code 22 = .ok (.iconst 1, 1) := by decide +kernel
theorem d_M_rests_23 : decode prog_7_method_12_code 23 = .ok (.iconst 1, 1) := by decide +kernel
theorem d_M_rests_24 : decode prog_7_method_12_code 24 = .ok (.invokevirtual 95, 3) := by decide +kernel
theorem d_M_rests_27 : decode prog_7_method_12_code 27 = .ok (.ifCond .ne 5, 3) := by decide +kernel
theorem d_M_rests_30 : decode prog_7_method_12_code 30 = .ok (.iconst 0, 1) := by decide +kernel
theorem d_M_rests_31 : decode prog_7_method_12_code 31 = .ok (.ireturn, 1) := by decide +kernel
theorem d_M_rests_32 : decode prog_7_method_12_code 32 = .ok (.aload_n 0, 1) := by decide +kernel
theorem d_M_rests_33 : decode prog_7_method_12_code 33 = .ok (.getfield 34, 3) := by decide +kernel
theorem d_M_rests_36 : decode prog_7_method_12_code 36 = .ok (.bipush 24, 2) := by decide +kernel
theorem d_M_rests_38 : decode prog_7_method_12_code 38 = .ok (.iload_n 1, 1) := by decide +kernel
theorem d_M_rests_39 : decode prog_7_method_12_code 39 = .ok (.imul, 1) := by decide +kernel
theorem d_M_rests_40 : decode prog_7_method_12_code 40 = .ok (.iload_n 2, 1) := by decide +kernel
theorem d_M_rests_41 : decode prog_7_method_12_code 41 = .ok (.iadd, 1) := by decide +kernel
theorem d_M_rests_42 : decode prog_7_method_12_code 42 = .ok (.baload, 1) := by decide +kernel
theorem d_M_rests_43 : decode prog_7_method_12_code 43 = .ok (.iload_n 3, 1) := by decide +kernel
theorem d_M_rests_44 : decode prog_7_method_12_code 44 = .ok (.if_icmp .eq 7, 3) := by decide +kernel
theorem d_M_rests_47 : decode prog_7_method_12_code 47 = .ok (.iconst 1, 1) := by decide +kernel
theorem d_M_rests_48 : decode prog_7_method_12_code 48 = .ok (.goto 4, 3) := by decide +kernel
theorem d_M_rests_51 : decode prog_7_method_12_code 51 = .ok (.iconst 0, 1) := by decide +kernel
theorem d_M_rests_52 : decode prog_7_method_12_code 52 = .ok (.istore 4, 2) := by decide +kernel
theorem d_M_rests_54 : decode prog_7_method_12_code 54 = .ok (.aload_n 0, 1) := by decide +kernel
theorem d_M_rests_55 : decode prog_7_method_12_code 55 = .ok (.getfield 34, 3) := by decide +kernel
theorem d_M_rests_58 : decode prog_7_method_12_code 58 = .ok (.bipush 24, 2) := by decide +kernel
theorem d_M_rests_60 : decode prog_7_method_12_code 60 = .ok (.iload_n 1, 1) := by decide +kernel
theorem d_M_rests_61 : decode prog_7_method_12_code 61 = .ok (.imul, 1) := by decide +kernel
theorem d_M_rests_62 : decode prog_7_method_12_code 62 = .ok (.iload_n 2, 1) := by decide +kernel
theorem d_M_rests_63 : decode prog_7_method_12_code 63 = .ok (.iadd, 1) := by decide +kernel
theorem d_M_rests_64 : decode prog_7_method_12_code 64 = .ok (.iload_n 3, 1) := by decide +kernel
theorem d_M_rests_65 : decode prog_7_method_12_code 65 = .ok (.bastore, 1) := by decide +kernel
theorem d_M_rests_66 : decode prog_7_method_12_code 66 = .ok (.iload 4, 2) := by decide +kernel
theorem d_M_rests_68 : decode prog_7_method_12_code 68 = .ok (.ireturn, 1) := by decide +kernel
theorem d_M_measure_0 : decode prog_7_method_13_code 0 = .ok (.iconst 0, 1) := by decide +kernel
theorem d_M_measure_1 : decode prog_7_method_13_code 1 = .ok (.istore_n 2, 1) := by decide +kernel
theorem d_M_measure_2 : decode prog_7_method_13_code 2 = .ok (.iload_n 2, 1) := by decide +kernel
theorem d_M_measure_3 : decode prog_7_method_13_code 3 = .ok (.bipush 24, 2) := by decide +kernel
theorem d_M_measure_5 : decode prog_7_method_13_code 5 = .ok (.if_icmp .ge 26, 3) := by decide +kernel
theorem d_M_measure_8 : decode prog_7_method_13_code 8 = .ok (.aload_n 0, 1) := by decide +kernel
theorem d_M_measure_9 : decode prog_7_method_13_code 9 = .ok (.getfield 47, 3) := by decide +kernel
theorem d_M_measure_12 : decode prog_7_method_13_code 12 = .ok (.iload_n 2, 1) := by decide +kernel
theorem d_M_measure_13 : decode prog_7_method_13_code 13 = .ok (.iload_n 2, 1) := by decide +kernel
theorem d_M_measure_14 : decode prog_7_method_13_code 14 = .ok (.iload_n 1, 1) := by decide +kernel
theorem d_M_measure_15 : decode prog_7_method_13_code 15 = .ok (.if_icmp .ne 7, 3) := by decide +kernel
theorem d_M_measure_18 : decode prog_7_method_13_code 18 = .ok (.iconst 0, 1) := by decide +kernel
theorem d_M_measure_19 : decode prog_7_method_13_code 19 = .ok (.goto 5, 3) := by decide +kernel
theorem d_M_measure_22 : decode prog_7_method_13_code 22 = .ok (.bipush 99, 2) := by decide +kernel
theorem d_M_measure_24 : decode prog_7_method_13_code 24 = .ok (.iastore, 1) := by decide +kernel
theorem d_M_measure_25 : decode prog_7_method_13_code 25 = .ok (.iinc 2 1, 3) := by decide +kernel
theorem d_M_measure_28 : decode prog_7_method_13_code 28 = .ok (.goto (-26), 3) := by decide +kernel
theorem d_M_measure_31 : decode prog_7_method_13_code 31 = .ok (.iconst 0, 1) := by decide +kernel
theorem d_M_measure_32 : decode prog_7_method_13_code 32 = .ok (.istore_n 2, 1) := by decide +kernel
theorem d_M_measure_33 : decode prog_7_method_13_code 33 = .ok (.iload_n 2, 1) := by decide +kernel
theorem d_M_measure_34 : decode prog_7_method_13_code 34 = .ok (.aload_n 0, 1) := by decide +kernel
theorem d_M_measure_35 : decode prog_7_method_13_code 35 = .ok (.getfield 85, 3) := by decide +kernel
theorem d_M_measure_38 : decode prog_7_method_13_code 38 = .ok (.if_icmp .ge 80, 3) := by decide +kernel
theorem d_M_measure_41 : decode prog_7_method_13_code 41 = .ok (.iconst 0, 1) := by decide +kernel
theorem d_M_measure_42 : decode prog_7_method_13_code 42 = .ok (.istore_n 3, 1) := by decide +kernel
theorem d_M_measure_43 : decode prog_7_method_13_code 43 = .ok (.iload_n 3, 1) := by decide +kernel
theorem d_M_measure_44 : decode prog_7_method_13_code 44 = .ok (.sipush 576, 3) := by decide +kernel
theorem d_M_measure_47 : decode prog_7_method_13_code 47 = .ok (.if_icmp .ge 65, 3) := by decide +kernel
theorem d_M_measure_50 : decode prog_7_method_13_code 50 = .ok (.iload_n 3, 1) := by decide +kernel
theorem d_M_measure_51 : decode prog_7_method_13_code 51 = .ok (.bipush 24, 2) := by decide +kernel
theorem d_M_measure_53 : decode prog_7_method_13_code 53 = .ok (.idiv, 1) := by decide +kernel
theorem d_M_measure_54 : decode prog_7_method_13_code 54 = .ok (.istore 4, 2) := by decide +kernel
theorem d_M_measure_56 : decode prog_7_method_13_code 56 = .ok (.iload_n 3, 1) := by decide +kernel
theorem d_M_measure_57 : decode prog_7_method_13_code 57 = .ok (.bipush 24, 2) := by decide +kernel
theorem d_M_measure_59 : decode prog_7_method_13_code 59 = .ok (.irem, 1) := by decide +kernel
theorem d_M_measure_60 : decode prog_7_method_13_code 60 = .ok (.istore 5, 2) := by decide +kernel
theorem d_M_measure_62 : decode prog_7_method_13_code 62 = .ok (.aload_n 0, 1) := by decide +kernel
theorem d_M_measure_63 : decode prog_7_method_13_code 63 = .ok (.getfield 38, 3) := by decide +kernel
theorem d_M_measure_66 : decode prog_7_method_13_code 66 = .ok (.iload_n 3, 1) := by decide +kernel
theorem d_M_measure_67 : decode prog_7_method_13_code 67 = .ok (.baload, 1) := by decide +kernel
theorem d_M_measure_68 : decode prog_7_method_13_code 68 = .ok (.ifCond .eq 38, 3) := by decide +kernel
theorem d_M_measure_71 : decode prog_7_method_13_code 71 = .ok (.aload_n 0, 1) := by decide +kernel
theorem d_M_measure_72 : decode prog_7_method_13_code 72 = .ok (.getfield 47, 3) := by decide +kernel
theorem d_M_measure_75 : decode prog_7_method_13_code 75 = .ok (.iload 5, 2) := by decide +kernel
theorem d_M_measure_77 : decode prog_7_method_13_code 77 = .ok (.iaload, 1) := by decide +kernel
theorem d_M_measure_78 : decode prog_7_method_13_code 78 = .ok (.iconst 1, 1) := by decide +kernel
theorem d_M_measure_79 : decode prog_7_method_13_code 79 = .ok (.iadd, 1) := by decide +kernel
theorem d_M_measure_80 : decode prog_7_method_13_code 80 = .ok (.aload_n 0, 1) := by decide +kernel
theorem d_M_measure_81 : decode prog_7_method_13_code 81 = .ok (.getfield 47, 3) := by decide +kernel
theorem d_M_measure_84 : decode prog_7_method_13_code 84 = .ok (.iload 4, 2) := by decide +kernel
theorem d_M_measure_86 : decode prog_7_method_13_code 86 = .ok (.iaload, 1) := by decide +kernel
theorem d_M_measure_87 : decode prog_7_method_13_code 87 = .ok (.if_icmp .ge 19, 3) := by decide +kernel
theorem d_M_measure_90 : decode prog_7_method_13_code 90 = .ok (.aload_n 0, 1) := by decide +kernel
theorem d_M_measure_91 : decode prog_7_method_13_code 91 = .ok (.getfield 47, 3) := by decide +kernel
theorem d_M_measure_94 : decode prog_7_method_13_code 94 = .ok (.iload 4, 2) := by decide +kernel
theorem d_M_measure_96 : decode prog_7_method_13_code 96 = .ok (.aload_n 0, 1) := by decide +kernel
theorem d_M_measure_97 : decode prog_7_method_13_code 97 = .ok (.getfield 47, 3) := by decide +kernel
theorem d_M_measure_100 : decode prog_7_method_13_code 100 = .ok (.iload 5, 2) := by decide +kernel
theorem d_M_measure_102 : decode prog_7_method_13_code 102 = .ok (.iaload, 1) := by decide +kernel
theorem d_M_measure_103 : decode prog_7_method_13_code 103 = .ok (.iconst 1, 1) := by decide +kernel
theorem d_M_measure_104 : decode prog_7_method_13_code 104 = .ok (.iadd, 1) := by decide +kernel
theorem d_M_measure_105 : decode prog_7_method_13_code 105 = .ok (.iastore, 1) := by decide +kernel
theorem d_M_measure_106 : decode prog_7_method_13_code 106 = .ok (.iinc 3 1, 3) := by decide +kernel
theorem d_M_measure_109 : decode prog_7_method_13_code 109 = .ok (.goto (-66), 3) := by decide +kernel
theorem d_M_measure_112 : decode prog_7_method_13_code 112 = .ok (.iinc 2 1, 3) := by decide +kernel
theorem d_M_measure_115 : decode prog_7_method_13_code 115 = .ok (.goto (-82), 3) := by decide +kernel
theorem d_M_measure_118 : decode prog_7_method_13_code 118 = .ok (.return_, 1) := by decide +kernel
theorem d_M_restsOn_0 : decode prog_7_method_14_code 0 = .ok (.aload_n 0, 1) := by decide +kernel
theorem d_M_restsOn_1 : decode prog_7_method_14_code 1 = .ok (.aload_n 0, 1) := by decide +kernel
theorem d_M_restsOn_2 : decode prog_7_method_14_code 2 = .ok (.iload_n 1, 1) := by decide +kernel
theorem d_M_restsOn_3 : decode prog_7_method_14_code 3 = .ok (.invokevirtual 103, 3) := by decide +kernel
theorem d_M_restsOn_6 : decode prog_7_method_14_code 6 = .ok (.ifCond .eq 15, 3) := by decide +kernel
theorem d_M_restsOn_9 : decode prog_7_method_14_code 9 = .ok (.aload_n 0, 1) := by decide +kernel
theorem d_M_restsOn_10 : decode prog_7_method_14_code 10 = .ok (.iload_n 2, 1) := by decide +kernel
theorem d_M_restsOn_11 : decode prog_7_method_14_code 11 = .ok (.invokevirtual 103, 3) := by decide +kernel
theorem d_M_restsOn_14 : decode prog_7_method_14_code 14 = .ok (.ifCond .eq 7, 3) := by decide +kernel
theorem d_M_restsOn_17 : decode prog_7_method_14_code 17 = .ok (.iconst 1, 1) := by decide +kernel
theorem d_M_restsOn_18 : decode prog_7_method_14_code 18 = .ok (.goto 4, 3) := by decide +kernel
theorem d_M_restsOn_21 : decode prog_7_method_14_code 21 = .ok (.iconst 0, 1) := by decide +kernel
theorem d_M_restsOn_22 : decode prog_7_method_14_code 22 = .ok (.iconst 1, 1) := by decide +kernel
theorem d_M_restsOn_23 : decode prog_7_method_14_code 23 = .ok (.iconst 1, 1) := by decide +kernel
theorem d_M_restsOn_24 : decode prog_7_method_14_code 24 = .ok (.invokevirtual 95, 3) := by decide +kernel
theorem d_M_restsOn_27 : decode prog_7_method_14_code 27 = .ok (.ifCond .ne 5, 3) := by decide +kernel
theorem d_M_restsOn_30 : decode prog_7_method_14_code 30 = .ok (.iconst 0, 1) := by decide +kernel
theorem d_M_restsOn_31 : decode prog_7_method_14_code 31 = .ok (.ireturn, 1) := by decide +kernel
theorem d_M_restsOn_32 : decode prog_7_method_14_code 32 = .ok (.aload_n 0, 1) := by decide +kernel
theorem d_M_restsOn_33 : decode prog_7_method_14_code 33 = .ok (.iload_n 1, 1) := by decide +kernel
theorem d_M_restsOn_34 : decode prog_7_method_14_code 34 = .ok (.invokevirtual 109, 3) := by decide +kernel
theorem d_M_restsOn_37 : decode prog_7_method_14_code 37 = .ok (.aload_n 0, 1) := by decide +kernel
theorem d_M_restsOn_38 : decode prog_7_method_14_code 38 = .ok (.getfield 47, 3) := by decide +kernel
theorem d_M_restsOn_41 : decode prog_7_method_14_code 41 = .ok (.iload_n 2, 1) := by decide +kernel
theorem d_M_restsOn_42 : decode prog_7_method_14_code 42 = .ok (.iaload, 1) := by decide +kernel
theorem d_M_restsOn_43 : decode prog_7_method_14_code 43 = .ok (.bipush 99, 2) := by decide +kernel
theorem d_M_restsOn_45 : decode prog_7_method_14_code 45 = .ok (.if_icmp .ge 110, 3) := by decide +kernel
theorem d_M_restsOn_48 : decode prog_7_method_14_code 48 = .ok (.aload_n 0, 1) := by decide +kernel
theorem d_M_restsOn_49 : decode prog_7_method_14_code 49 = .ok (.getfield 44, 3) := by decide +kernel
theorem d_M_restsOn_52 : decode prog_7_method_14_code 52 = .ok (.iconst 0, 1) := by decide +kernel
theorem d_M_restsOn_53 : decode prog_7_method_14_code 53 = .ok (.iload_n 1, 1) := by decide +kernel
theorem d_M_restsOn_54 : decode prog_7_method_14_code 54 = .ok (.iastore, 1) := by decide +kernel
theorem d_M_restsOn_55 : decode prog_7_method_14_code 55 = .ok (.aload_n 0, 1) := by decide +kernel
theorem d_M_restsOn_56 : decode prog_7_method_14_code 56 = .ok (.iconst 1, 1) := by decide +kernel
theorem d_M_restsOn_57 : decode prog_7_method_14_code 57 = .ok (.putfield 113, 3) := by decide +kernel
theorem d_M_restsOn_60 : decode prog_7_method_14_code 60 = .ok (.iload_n 2, 1) := by decide +kernel
theorem d_M_restsOn_61 : decode prog_7_method_14_code 61 = .ok (.istore_n 3, 1) := by decide +kernel
theorem d_M_restsOn_62 : decode prog_7_method_14_code 62 = .ok (.iload_n 3, 1) := by decide +kernel
theorem d_M_restsOn_63 : decode prog_7_method_14_code 63 = .ok (.iload_n 1, 1) := by decide +kernel
theorem d_M_restsOn_64 : decode prog_7_method_14_code 64 = .ok (.if_icmp .eq 89, 3) := by decide +kernel
theorem d_M_restsOn_67 : decode prog_7_method_14_code 67 = .ok (.aload_n 0, 1) := by decide +kernel
theorem d_M_restsOn_68 : decode prog_7_method_14_code 68 = .ok (.getfield 44, 3) := by decide +kernel
theorem d_M_restsOn_71 : decode prog_7_method_14_code 71 = .ok (.aload_n 0, 1) := by decide +kernel
theorem d_M_restsOn_72 : decode prog_7_method_14_code 72 = .ok (.getfield 113, 3) := by decide +kernel
theorem d_M_restsOn_75 : decode prog_7_method_14_code 75 = .ok (.iload_n 3, 1) := by decide +kernel
theorem d_M_restsOn_76 : decode prog_7_method_14_code 76 = .ok (.iastore, 1) := by decide +kernel
theorem d_M_restsOn_77 : decode prog_7_method_14_code 77 = .ok (.aload_n 0, 1) := by decide +kernel
theorem d_M_restsOn_78 : decode prog_7_method_14_code 78 = .ok (.dup, 1) := by decide +kernel
theorem d_M_restsOn_79 : decode prog_7_method_14_code 79 = .ok (.getfield 113, 3) := by decide +kernel
theorem d_M_restsOn_82 : decode prog_7_method_14_code 82 = .ok (.iconst 1, 1) := by decide +kernel
theorem d_M_restsOn_83 : decode prog_7_method_14_code 83 = .ok (.iadd, 1) := by decide +kernel
theorem d_M_restsOn_84 : decode prog_7_method_14_code 84 = .ok (.putfield 113, 3) := by decide +kernel
theorem d_M_restsOn_87 : decode prog_7_method_14_code 87 = .ok (.iconst (-1), 1) := by decide +kernel
theorem d_M_restsOn_88 : decode prog_7_method_14_code 88 = .ok (.istore 4, 2) := by decide +kernel
theorem d_M_restsOn_90 : decode prog_7_method_14_code 90 = .ok (.bipush 23, 2) := by decide +kernel
theorem d_M_restsOn_92 : decode prog_7_method_14_code 92 = .ok (.istore 5, 2) := by decide +kernel
theorem d_M_restsOn_94 : decode prog_7_method_14_code 94 = .ok (.iload 5, 2) := by decide +kernel
theorem d_M_restsOn_96 : decode prog_7_method_14_code 96 = .ok (.ifCond .lt 51, 3) := by decide +kernel
theorem d_M_restsOn_99 : decode prog_7_method_14_code 99 = .ok (.aload_n 0, 1) := by decide +kernel
theorem d_M_restsOn_100 : decode prog_7_method_14_code 100 = .ok (.getfield 38, 3) := by decide +kernel
theorem d_M_restsOn_103 : decode prog_7_method_14_code 103 = .ok (.bipush 24, 2) := by decide +kernel
theorem d_M_restsOn_105 : decode prog_7_method_14_code 105 = .ok (.iload_n 3, 1) := by decide +kernel
theorem d_M_restsOn_106 : decode prog_7_method_14_code 106 = .ok (.imul, 1) := by decide +kernel
theorem d_M_restsOn_107 : decode prog_7_method_14_code 107 = .ok (.iload 5, 2) := by decide +kernel
theorem d_M_restsOn_109 : decode prog_7_method_14_code 109 = .ok (.iadd, 1) := by decide +kernel
theorem d_M_restsOn_110 : decode prog_7_method_14_code 110 = .ok (.baload, 1) := by decide +kernel
theorem d_M_restsOn_111 : decode prog_7_method_14_code 111 = .ok (.ifCond .eq 26, 3) := by decide +kernel
theorem d_M_restsOn_114 : decode prog_7_method_14_code 114 = .ok (.aload_n 0, 1) := by decide +kernel
theorem d_M_restsOn_115 : decode prog_7_method_14_code 115 = .ok (.getfield 47, 3) := by decide +kernel
theorem d_M_restsOn_118 : decode prog_7_method_14_code 118 = .ok (.iload 5, 2) := by decide +kernel
theorem d_M_restsOn_120 : decode prog_7_method_14_code 120 = .ok (.iaload, 1) := by decide +kernel
theorem d_M_restsOn_121 : decode prog_7_method_14_code 121 = .ok (.aload_n 0, 1) := by decide +kernel
theorem d_M_restsOn_122 : decode prog_7_method_14_code 122 = .ok (.getfield 47, 3) := by decide +kernel
theorem d_M_restsOn_125 : decode prog_7_method_14_code 125 = .ok (.iload_n 3, 1) := by decide +kernel
theorem d_M_restsOn_126 : decode prog_7_method_14_code 126 = .ok (.iaload, 1) := by decide +kernel
theorem d_M_restsOn_127 : decode prog_7_method_14_code 127 = .ok (.iconst 1, 1) := by decide +kernel
theorem d_M_restsOn_128 : decode prog_7_method_14_code 128 = .ok (.isub, 1) := by decide +kernel
theorem d_M_restsOn_129 : decode prog_7_method_14_code 129 = .ok (.if_icmp .ne 8, 3) := by decide +kernel
theorem d_M_restsOn_132 : decode prog_7_method_14_code 132 = .ok (.iload 5, 2) := by decide +kernel
theorem d_M_restsOn_134 : decode prog_7_method_14_code 134 = .ok (.goto 5, 3) := by decide +kernel
theorem d_M_restsOn_137 : decode prog_7_method_14_code 137 = .ok (.iload 4, 2) := by decide +kernel
theorem d_M_restsOn_139 : decode prog_7_method_14_code 139 = .ok (.istore 4, 2) := by decide +kernel
theorem d_M_restsOn_141 : decode prog_7_method_14_code 141 = .ok (.iinc 5 (-1), 3) := by decide +kernel
theorem d_M_restsOn_144 : decode prog_7_method_14_code 144 = .ok (.goto (-50), 3) := by decide +kernel
theorem d_M_restsOn_147 : decode prog_7_method_14_code 147 = .ok (.iload 4, 2) := by decide +kernel
theorem d_M_restsOn_149 : decode prog_7_method_14_code 149 = .ok (.istore_n 3, 1) := by decide +kernel
theorem d_M_restsOn_150 : decode prog_7_method_14_code 150 = .ok (.goto (-88), 3) := by decide +kernel
theorem d_M_restsOn_153 : decode prog_7_method_14_code 153 = .ok (.iconst (-1), 1) := by decide +kernel
theorem d_M_restsOn_154 : decode prog_7_method_14_code 154 = .ok (.ireturn, 1) := by decide +kernel
theorem d_M_restsOn_155 : decode prog_7_method_14_code 155 = .ok (.aload_n 0, 1) := by decide +kernel
theorem d_M_restsOn_156 : decode prog_7_method_14_code 156 = .ok (.getfield 38, 3) := by decide +kernel
theorem d_M_restsOn_159 : decode prog_7_method_14_code 159 = .ok (.bipush 24, 2) := by decide +kernel
theorem d_M_restsOn_161 : decode prog_7_method_14_code 161 = .ok (.iload_n 1, 1) := by decide +kernel
theorem d_M_restsOn_162 : decode prog_7_method_14_code 162 = .ok (.imul, 1) := by decide +kernel
theorem d_M_restsOn_163 : decode prog_7_method_14_code 163 = .ok (.iload_n 2, 1) := by decide +kernel
theorem d_M_restsOn_164 : decode prog_7_method_14_code 164 = .ok (.iadd, 1) := by decide +kernel
theorem d_M_restsOn_165 : decode prog_7_method_14_code 165 = .ok (.baload, 1) := by decide +kernel
theorem d_M_restsOn_166 : decode prog_7_method_14_code 166 = .ok (.istore_n 3, 1) := by decide +kernel
theorem d_M_restsOn_167 : decode prog_7_method_14_code 167 = .ok (.aload_n 0, 1) := by decide +kernel
theorem d_M_restsOn_168 : decode prog_7_method_14_code 168 = .ok (.getfield 38, 3) := by decide +kernel
theorem d_M_restsOn_171 : decode prog_7_method_14_code 171 = .ok (.bipush 24, 2) := by decide +kernel
theorem d_M_restsOn_173 : decode prog_7_method_14_code 173 = .ok (.iload_n 1, 1) := by decide +kernel
theorem d_M_restsOn_174 : decode prog_7_method_14_code 174 = .ok (.imul, 1) := by decide +kernel
theorem d_M_restsOn_175 : decode prog_7_method_14_code 175 = .ok (.iload_n 2, 1) := by decide +kernel
theorem d_M_restsOn_176 : decode prog_7_method_14_code 176 = .ok (.iadd, 1) := by decide +kernel
theorem d_M_restsOn_177 : decode prog_7_method_14_code 177 = .ok (.iconst 1, 1) := by decide +kernel
theorem d_M_restsOn_178 : decode prog_7_method_14_code 178 = .ok (.bastore, 1) := by decide +kernel
theorem d_M_restsOn_179 : decode prog_7_method_14_code 179 = .ok (.iload_n 3, 1) := by decide +kernel
theorem d_M_restsOn_180 : decode prog_7_method_14_code 180 = .ok (.ifCond .eq 7, 3) := by decide +kernel
theorem d_M_restsOn_183 : decode prog_7_method_14_code 183 = .ok (.iconst 0, 1) := by decide +kernel
theorem d_M_restsOn_184 : decode prog_7_method_14_code 184 = .ok (.goto 4, 3) := by decide +kernel
theorem d_M_restsOn_187 : decode prog_7_method_14_code 187 = .ok (.iconst 1, 1) := by decide +kernel
theorem d_M_restsOn_188 : decode prog_7_method_14_code 188 = .ok (.ireturn, 1) := by decide +kernel
theorem d_M_ring_0 : decode prog_7_method_15_code 0 = .ok (.aload_n 0, 1) := by decide +kernel
theorem d_M_ring_1 : decode prog_7_method_15_code 1 = .ok (.iload_n 1, 1) := by decide +kernel
theorem d_M_ring_2 : decode prog_7_method_15_code 2 = .ok (.ifCond .lt 7, 3) := by decide +kernel
theorem d_M_ring_5 : decode prog_7_method_15_code 5 = .ok (.iconst 1, 1) := by decide +kernel
theorem d_M_ring_6 : decode prog_7_method_15_code 6 = .ok (.goto 4, 3) := by decide +kernel
theorem d_M_ring_9 : decode prog_7_method_15_code 9 = .ok (.iconst 0, 1) := by decide +kernel
theorem d_M_ring_10 : decode prog_7_method_15_code 10 = .ok (.iconst 1, 1) := by decide +kernel
theorem d_M_ring_11 : decode prog_7_method_15_code 11 = .ok (.iconst 1, 1) := by decide +kernel
theorem d_M_ring_12 : decode prog_7_method_15_code 12 = .ok (.invokevirtual 95, 3) := by decide +kernel
theorem d_M_ring_15 : decode prog_7_method_15_code 15 = .ok (.ifCond .ne 5, 3) := by decide +kernel
theorem d_M_ring_18 : decode prog_7_method_15_code 18 = .ok (.iconst 0, 1) := by decide +kernel
theorem d_M_ring_19 : decode prog_7_method_15_code 19 = .ok (.ireturn, 1) := by decide +kernel
theorem d_M_ring_20 : decode prog_7_method_15_code 20 = .ok (.iload_n 1, 1) := by decide +kernel
theorem d_M_ring_21 : decode prog_7_method_15_code 21 = .ok (.aload_n 0, 1) := by decide +kernel
theorem d_M_ring_22 : decode prog_7_method_15_code 22 = .ok (.getfield 113, 3) := by decide +kernel
theorem d_M_ring_25 : decode prog_7_method_15_code 25 = .ok (.if_icmp .ge 12, 3) := by decide +kernel
theorem d_M_ring_28 : decode prog_7_method_15_code 28 = .ok (.aload_n 0, 1) := by decide +kernel
theorem d_M_ring_29 : decode prog_7_method_15_code 29 = .ok (.getfield 44, 3) := by decide +kernel
theorem d_M_ring_32 : decode prog_7_method_15_code 32 = .ok (.iload_n 1, 1) := by decide +kernel
theorem d_M_ring_33 : decode prog_7_method_15_code 33 = .ok (.iaload, 1) := by decide +kernel
theorem d_M_ring_34 : decode prog_7_method_15_code 34 = .ok (.goto 4, 3) := by decide +kernel
theorem d_M_ring_37 : decode prog_7_method_15_code 37 = .ok (.iconst (-1), 1) := by decide +kernel
theorem d_M_ring_38 : decode prog_7_method_15_code 38 = .ok (.ireturn, 1) := by decide +kernel
theorem d_M_lift_0 : decode prog_7_method_16_code 0 = .ok (.aload_n 0, 1) := by decide +kernel
theorem d_M_lift_1 : decode prog_7_method_16_code 1 = .ok (.aload_n 0, 1) := by decide +kernel
theorem d_M_lift_2 : decode prog_7_method_16_code 2 = .ok (.iload_n 1, 1) := by decide +kernel
theorem d_M_lift_3 : decode prog_7_method_16_code 3 = .ok (.invokevirtual 103, 3) := by decide +kernel
theorem d_M_lift_6 : decode prog_7_method_16_code 6 = .ok (.ifCond .eq 15, 3) := by decide +kernel
theorem d_M_lift_9 : decode prog_7_method_16_code 9 = .ok (.aload_n 0, 1) := by decide +kernel
theorem d_M_lift_10 : decode prog_7_method_16_code 10 = .ok (.iload_n 2, 1) := by decide +kernel
theorem d_M_lift_11 : decode prog_7_method_16_code 11 = .ok (.invokevirtual 103, 3) := by decide +kernel
theorem d_M_lift_14 : decode prog_7_method_16_code 14 = .ok (.ifCond .eq 7, 3) := by decide +kernel
theorem d_M_lift_17 : decode prog_7_method_16_code 17 = .ok (.iconst 1, 1) := by decide +kernel
theorem d_M_lift_18 : decode prog_7_method_16_code 18 = .ok (.goto 4, 3) := by decide +kernel
theorem d_M_lift_21 : decode prog_7_method_16_code 21 = .ok (.iconst 0, 1) := by decide +kernel
theorem d_M_lift_22 : decode prog_7_method_16_code 22 = .ok (.iconst 1, 1) := by decide +kernel
theorem d_M_lift_23 : decode prog_7_method_16_code 23 = .ok (.iconst 1, 1) := by decide +kernel
theorem d_M_lift_24 : decode prog_7_method_16_code 24 = .ok (.invokevirtual 95, 3) := by decide +kernel
theorem d_M_lift_27 : decode prog_7_method_16_code 27 = .ok (.ifCond .ne 5, 3) := by decide +kernel
theorem d_M_lift_30 : decode prog_7_method_16_code 30 = .ok (.iconst 0, 1) := by decide +kernel
theorem d_M_lift_31 : decode prog_7_method_16_code 31 = .ok (.ireturn, 1) := by decide +kernel
theorem d_M_lift_32 : decode prog_7_method_16_code 32 = .ok (.aload_n 0, 1) := by decide +kernel
theorem d_M_lift_33 : decode prog_7_method_16_code 33 = .ok (.getfield 38, 3) := by decide +kernel
theorem d_M_lift_36 : decode prog_7_method_16_code 36 = .ok (.bipush 24, 2) := by decide +kernel
theorem d_M_lift_38 : decode prog_7_method_16_code 38 = .ok (.iload_n 1, 1) := by decide +kernel
theorem d_M_lift_39 : decode prog_7_method_16_code 39 = .ok (.imul, 1) := by decide +kernel
theorem d_M_lift_40 : decode prog_7_method_16_code 40 = .ok (.iload_n 2, 1) := by decide +kernel
theorem d_M_lift_41 : decode prog_7_method_16_code 41 = .ok (.iadd, 1) := by decide +kernel
theorem d_M_lift_42 : decode prog_7_method_16_code 42 = .ok (.baload, 1) := by decide +kernel
theorem d_M_lift_43 : decode prog_7_method_16_code 43 = .ok (.istore_n 3, 1) := by decide +kernel
theorem d_M_lift_44 : decode prog_7_method_16_code 44 = .ok (.aload_n 0, 1) := by decide +kernel
theorem d_M_lift_45 : decode prog_7_method_16_code 45 = .ok (.getfield 38, 3) := by decide +kernel
theorem d_M_lift_48 : decode prog_7_method_16_code 48 = .ok (.bipush 24, 2) := by decide +kernel
theorem d_M_lift_50 : decode prog_7_method_16_code 50 = .ok (.iload_n 1, 1) := by decide +kernel
theorem d_M_lift_51 : decode prog_7_method_16_code 51 = .ok (.imul, 1) := by decide +kernel
theorem d_M_lift_52 : decode prog_7_method_16_code 52 = .ok (.iload_n 2, 1) := by decide +kernel
theorem d_M_lift_53 : decode prog_7_method_16_code 53 = .ok (.iadd, 1) := by decide +kernel
theorem d_M_lift_54 : decode prog_7_method_16_code 54 = .ok (.iconst 0, 1) := by decide +kernel
theorem d_M_lift_55 : decode prog_7_method_16_code 55 = .ok (.bastore, 1) := by decide +kernel
theorem d_M_lift_56 : decode prog_7_method_16_code 56 = .ok (.iload_n 3, 1) := by decide +kernel
theorem d_M_lift_57 : decode prog_7_method_16_code 57 = .ok (.ireturn, 1) := by decide +kernel
theorem d_M_withdraw_0 : decode prog_7_method_17_code 0 = .ok (.aload_n 0, 1) := by decide +kernel
theorem d_M_withdraw_1 : decode prog_7_method_17_code 1 = .ok (.aload_n 0, 1) := by decide +kernel
theorem d_M_withdraw_2 : decode prog_7_method_17_code 2 = .ok (.iload_n 1, 1) := by decide +kernel
theorem d_M_withdraw_3 : decode prog_7_method_17_code 3 = .ok (.invokevirtual 106, 3) := by decide +kernel
theorem d_M_withdraw_6 : decode prog_7_method_17_code 6 = .ok (.iload_n 2, 1) := by decide +kernel
theorem d_M_withdraw_7 : decode prog_7_method_17_code 7 = .ok (.iconst (-1), 1) := by decide +kernel
theorem d_M_withdraw_8 : decode prog_7_method_17_code 8 = .ok (.if_icmp .eq 10, 3) := by decide +kernel
theorem d_M_withdraw_11 : decode prog_7_method_17_code 11 = .ok (.iload_n 2, 1) := by decide +kernel
theorem d_M_withdraw_12 : decode prog_7_method_17_code 12 = .ok (.invokestatic 99, 3) := by decide +kernel
theorem d_M_withdraw_15 : decode prog_7_method_17_code 15 = .ok (.ifCond .eq 7, 3) := by decide +kernel
theorem d_M_withdraw_18 : decode prog_7_method_17_code 18 = .ok (.iconst 1, 1) := by decide +kernel
theorem d_M_withdraw_19 : decode prog_7_method_17_code 19 = .ok (.goto 4, 3) := by decide +kernel
theorem d_M_withdraw_22 : decode prog_7_method_17_code 22 = .ok (.iconst 0, 1) := by decide +kernel
theorem d_M_withdraw_23 : decode prog_7_method_17_code 23 = .ok (.iconst 1, 1) := by decide +kernel
theorem d_M_withdraw_24 : decode prog_7_method_17_code 24 = .ok (.invokevirtual 95, 3) := by decide +kernel
theorem d_M_withdraw_27 : decode prog_7_method_17_code 27 = .ok (.ifCond .ne 5, 3) := by decide +kernel
theorem d_M_withdraw_30 : decode prog_7_method_17_code 30 = .ok (.iconst 0, 1) := by decide +kernel
theorem d_M_withdraw_31 : decode prog_7_method_17_code 31 = .ok (.ireturn, 1) := by decide +kernel
theorem d_M_withdraw_32 : decode prog_7_method_17_code 32 = .ok (.aload_n 0, 1) := by decide +kernel
theorem d_M_withdraw_33 : decode prog_7_method_17_code 33 = .ok (.getfield 19, 3) := by decide +kernel
theorem d_M_withdraw_36 : decode prog_7_method_17_code 36 = .ok (.iload_n 1, 1) := by decide +kernel
theorem d_M_withdraw_37 : decode prog_7_method_17_code 37 = .ok (.iaload, 1) := by decide +kernel
theorem d_M_withdraw_38 : decode prog_7_method_17_code 38 = .ok (.istore_n 3, 1) := by decide +kernel
theorem d_M_withdraw_39 : decode prog_7_method_17_code 39 = .ok (.aload_n 0, 1) := by decide +kernel
theorem d_M_withdraw_40 : decode prog_7_method_17_code 40 = .ok (.getfield 19, 3) := by decide +kernel
theorem d_M_withdraw_43 : decode prog_7_method_17_code 43 = .ok (.iload_n 1, 1) := by decide +kernel
theorem d_M_withdraw_44 : decode prog_7_method_17_code 44 = .ok (.iload_n 2, 1) := by decide +kernel
theorem d_M_withdraw_45 : decode prog_7_method_17_code 45 = .ok (.iastore, 1) := by decide +kernel
theorem d_M_withdraw_46 : decode prog_7_method_17_code 46 = .ok (.iload_n 3, 1) := by decide +kernel
theorem d_M_withdraw_47 : decode prog_7_method_17_code 47 = .ok (.ireturn, 1) := by decide +kernel
theorem d_M_ofClaim_0 : decode prog_7_method_18_code 0 = .ok (.iconst 0, 1) := by decide +kernel
theorem d_M_ofClaim_1 : decode prog_7_method_18_code 1 = .ok (.istore_n 2, 1) := by decide +kernel
theorem d_M_ofClaim_2 : decode prog_7_method_18_code 2 = .ok (.iconst 0, 1) := by decide +kernel
theorem d_M_ofClaim_3 : decode prog_7_method_18_code 3 = .ok (.istore_n 3, 1) := by decide +kernel
theorem d_M_ofClaim_4 : decode prog_7_method_18_code 4 = .ok (.iload_n 3, 1) := by decide +kernel
theorem d_M_ofClaim_5 : decode prog_7_method_18_code 5 = .ok (.aload_n 0, 1) := by decide +kernel
theorem d_M_ofClaim_6 : decode prog_7_method_18_code 6 = .ok (.getfield 116, 3) := by decide +kernel
theorem d_M_ofClaim_9 : decode prog_7_method_18_code 9 = .ok (.if_icmp .ge 27, 3) := by decide +kernel
theorem d_M_ofClaim_12 : decode prog_7_method_18_code 12 = .ok (.aload_n 0, 1) := by decide +kernel
theorem d_M_ofClaim_13 : decode prog_7_method_18_code 13 = .ok (.getfield 59, 3) := by decide +kernel
theorem d_M_ofClaim_16 : decode prog_7_method_18_code 16 = .ok (.iload_n 3, 1) := by decide +kernel
theorem d_M_ofClaim_17 : decode prog_7_method_18_code 17 = .ok (.iaload, 1) := by decide +kernel
theorem d_M_ofClaim_18 : decode prog_7_method_18_code 18 = .ok (.iload_n 1, 1) := by decide +kernel
theorem d_M_ofClaim_19 : decode prog_7_method_18_code 19 = .ok (.if_icmp .ne 9, 3) := by decide +kernel
theorem d_M_ofClaim_22 : decode prog_7_method_18_code 22 = .ok (.iload_n 2, 1) := by decide +kernel
theorem d_M_ofClaim_23 : decode prog_7_method_18_code 23 = .ok (.iconst 1, 1) := by decide +kernel
theorem d_M_ofClaim_24 : decode prog_7_method_18_code 24 = .ok (.iadd, 1) := by decide +kernel
theorem d_M_ofClaim_25 : decode prog_7_method_18_code 25 = .ok (.goto 4, 3) := by decide +kernel
theorem d_M_ofClaim_28 : decode prog_7_method_18_code 28 = .ok (.iload_n 2, 1) := by decide +kernel
theorem d_M_ofClaim_29 : decode prog_7_method_18_code 29 = .ok (.istore_n 2, 1) := by decide +kernel
theorem d_M_ofClaim_30 : decode prog_7_method_18_code 30 = .ok (.iinc 3 1, 3) := by decide +kernel
theorem d_M_ofClaim_33 : decode prog_7_method_18_code 33 = .ok (.goto (-29), 3) := by decide +kernel
theorem d_M_ofClaim_36 : decode prog_7_method_18_code 36 = .ok (.iload_n 2, 1) := by decide +kernel
theorem d_M_ofClaim_37 : decode prog_7_method_18_code 37 = .ok (.ireturn, 1) := by decide +kernel
theorem d_M_opinion_0 : decode prog_7_method_19_code 0 = .ok (.aload_n 0, 1) := by decide +kernel
theorem d_M_opinion_1 : decode prog_7_method_19_code 1 = .ok (.getfield 116, 3) := by decide +kernel
theorem d_M_opinion_4 : decode prog_7_method_19_code 4 = .ok (.istore 6, 2) := by decide +kernel
theorem d_M_opinion_6 : decode prog_7_method_19_code 6 = .ok (.iconst 0, 1) := by decide +kernel
theorem d_M_opinion_7 : decode prog_7_method_19_code 7 = .ok (.istore 7, 2) := by decide +kernel
theorem d_M_opinion_9 : decode prog_7_method_19_code 9 = .ok (.iload 7, 2) := by decide +kernel
theorem d_M_opinion_11 : decode prog_7_method_19_code 11 = .ok (.aload_n 0, 1) := by decide +kernel
theorem d_M_opinion_12 : decode prog_7_method_19_code 12 = .ok (.getfield 116, 3) := by decide +kernel
theorem d_M_opinion_15 : decode prog_7_method_19_code 15 = .ok (.if_icmp .ge 52, 3) := by decide +kernel
theorem d_M_opinion_18 : decode prog_7_method_19_code 18 = .ok (.aload_n 0, 1) := by decide +kernel
theorem d_M_opinion_19 : decode prog_7_method_19_code 19 = .ok (.getfield 56, 3) := by decide +kernel
theorem d_M_opinion_22 : decode prog_7_method_19_code 22 = .ok (.iload 7, 2) := by decide +kernel
theorem d_M_opinion_24 : decode prog_7_method_19_code 24 = .ok (.iaload, 1) := by decide +kernel
theorem d_M_opinion_25 : decode prog_7_method_19_code 25 = .ok (.iload_n 1, 1) := by decide +kernel
theorem d_M_opinion_26 : decode prog_7_method_19_code 26 = .ok (.if_icmp .ne 31, 3) := by decide +kernel
theorem d_M_opinion_29 : decode prog_7_method_19_code 29 = .ok (.aload_n 0, 1) := by decide +kernel
theorem d_M_opinion_30 : decode prog_7_method_19_code 30 = .ok (.getfield 59, 3) := by decide +kernel
theorem d_M_opinion_33 : decode prog_7_method_19_code 33 = .ok (.iload 7, 2) := by decide +kernel
theorem d_M_opinion_35 : decode prog_7_method_19_code 35 = .ok (.iaload, 1) := by decide +kernel
theorem d_M_opinion_36 : decode prog_7_method_19_code 36 = .ok (.iload_n 2, 1) := by decide +kernel
theorem d_M_opinion_37 : decode prog_7_method_19_code 37 = .ok (.if_icmp .ne 20, 3) := by decide +kernel
theorem d_M_opinion_40 : decode prog_7_method_19_code 40 = .ok (.aload_n 0, 1) := by decide +kernel
theorem d_M_opinion_41 : decode prog_7_method_19_code 41 = .ok (.getfield 65, 3) := by decide +kernel
theorem d_M_opinion_44 : decode prog_7_method_19_code 44 = .ok (.iload 7, 2) := by decide +kernel
theorem d_M_opinion_46 : decode prog_7_method_19_code 46 = .ok (.iaload, 1) := by decide +kernel
theorem d_M_opinion_47 : decode prog_7_method_19_code 47 = .ok (.iload 4, 2) := by decide +kernel
theorem d_M_opinion_49 : decode prog_7_method_19_code 49 = .ok (.if_icmp .ne 8, 3) := by decide +kernel
theorem d_M_opinion_52 : decode prog_7_method_19_code 52 = .ok (.iload 7, 2) := by decide +kernel
theorem d_M_opinion_54 : decode prog_7_method_19_code 54 = .ok (.goto 5, 3) := by decide +kernel
theorem d_M_opinion_57 : decode prog_7_method_19_code 57 = .ok (.iload 6, 2) := by decide +kernel
theorem d_M_opinion_59 : decode prog_7_method_19_code 59 = .ok (.istore 6, 2) := by decide +kernel
theorem d_M_opinion_61 : decode prog_7_method_19_code 61 = .ok (.iinc 7 1, 3) := by decide +kernel
theorem d_M_opinion_64 : decode prog_7_method_19_code 64 = .ok (.goto (-55), 3) := by decide +kernel
theorem d_M_opinion_67 : decode prog_7_method_19_code 67 = .ok (.aload_n 0, 1) := by decide +kernel
theorem d_M_opinion_68 : decode prog_7_method_19_code 68 = .ok (.iload_n 1, 1) := by decide +kernel
theorem d_M_opinion_69 : decode prog_7_method_19_code 69 = .ok (.iconst 0, 1) := by decide +kernel
theorem d_M_opinion_70 : decode prog_7_method_19_code 70 = .ok (.bipush 31, 2) := by decide +kernel
theorem d_M_opinion_72 : decode prog_7_method_19_code 72 = .ok (.invokestatic 88, 3) := by decide +kernel
theorem d_M_opinion_75 : decode prog_7_method_19_code 75 = .ok (.ifCond .eq 15, 3) := by decide +kernel
theorem d_M_opinion_78 : decode prog_7_method_19_code 78 = .ok (.aload_n 0, 1) := by decide +kernel
theorem d_M_opinion_79 : decode prog_7_method_19_code 79 = .ok (.iload_n 2, 1) := by decide +kernel
theorem d_M_opinion_80 : decode prog_7_method_19_code 80 = .ok (.invokevirtual 103, 3) := by decide +kernel
theorem d_M_opinion_83 : decode prog_7_method_19_code 83 = .ok (.ifCond .eq 7, 3) := by decide +kernel
theorem d_M_opinion_86 : decode prog_7_method_19_code 86 = .ok (.iconst 1, 1) := by decide +kernel
theorem d_M_opinion_87 : decode prog_7_method_19_code 87 = .ok (.goto 4, 3) := by decide +kernel
theorem d_M_opinion_90 : decode prog_7_method_19_code 90 = .ok (.iconst 0, 1) := by decide +kernel
theorem d_M_opinion_91 : decode prog_7_method_19_code 91 = .ok (.iload_n 3, 1) := by decide +kernel
theorem d_M_opinion_92 : decode prog_7_method_19_code 92 = .ok (.iconst 0, 1) := by decide +kernel
theorem d_M_opinion_93 : decode prog_7_method_19_code 93 = .ok (.bipush 99, 2) := by decide +kernel
theorem d_M_opinion_95 : decode prog_7_method_19_code 95 = .ok (.invokestatic 88, 3) := by decide +kernel
theorem d_M_opinion_98 : decode prog_7_method_19_code 98 = .ok (.ifCond .eq 26, 3) := by decide +kernel
theorem d_M_opinion_101 : decode prog_7_method_19_code 101 = .ok (.iload 4, 2) := by decide +kernel
theorem d_M_opinion_103 : decode prog_7_method_19_code 103 = .ok (.invokestatic 99, 3) := by decide +kernel
theorem d_M_opinion_106 : decode prog_7_method_19_code 106 = .ok (.ifCond .eq 18, 3) := by decide +kernel
theorem d_M_opinion_109 : decode prog_7_method_19_code 109 = .ok (.iload 5, 2) := by decide +kernel
theorem d_M_opinion_111 : decode prog_7_method_19_code 111 = .ok (.iconst 0, 1) := by decide +kernel
theorem d_M_opinion_112 : decode prog_7_method_19_code 112 = .ok (.bipush 9, 2) := by decide +kernel
theorem d_M_opinion_114 : decode prog_7_method_19_code 114 = .ok (.invokestatic 88, 3) := by decide +kernel
theorem d_M_opinion_117 : decode prog_7_method_19_code 117 = .ok (.ifCond .eq 7, 3) := by decide +kernel
theorem d_M_opinion_120 : decode prog_7_method_19_code 120 = .ok (.iconst 1, 1) := by decide +kernel
theorem d_M_opinion_121 : decode prog_7_method_19_code 121 = .ok (.goto 4, 3) := by decide +kernel
theorem d_M_opinion_124 : decode prog_7_method_19_code 124 = .ok (.iconst 0, 1) := by decide +kernel
theorem d_M_opinion_125 : decode prog_7_method_19_code 125 = .ok (.iload 6, 2) := by decide +kernel
theorem d_M_opinion_127 : decode prog_7_method_19_code 127 = .ok (.sipush 300, 3) := by decide +kernel
theorem d_M_opinion_130 : decode prog_7_method_19_code 130 = .ok (.if_icmp .ge 7, 3) := by decide +kernel
theorem d_M_opinion_133 : decode prog_7_method_19_code 133 = .ok (.iconst 1, 1) := by decide +kernel
theorem d_M_opinion_134 : decode prog_7_method_19_code 134 = .ok (.goto 4, 3) := by decide +kernel
theorem d_M_opinion_137 : decode prog_7_method_19_code 137 = .ok (.iconst 0, 1) := by decide +kernel
theorem d_M_opinion_138 : decode prog_7_method_19_code 138 = .ok (.invokevirtual 95, 3) := by decide +kernel
theorem d_M_opinion_141 : decode prog_7_method_19_code 141 = .ok (.ifCond .ne 5, 3) := by decide +kernel
theorem d_M_opinion_144 : decode prog_7_method_19_code 144 = .ok (.iconst 0, 1) := by decide +kernel
theorem d_M_opinion_145 : decode prog_7_method_19_code 145 = .ok (.ireturn, 1) := by decide +kernel
theorem d_M_opinion_146 : decode prog_7_method_19_code 146 = .ok (.aload_n 0, 1) := by decide +kernel
theorem d_M_opinion_147 : decode prog_7_method_19_code 147 = .ok (.getfield 56, 3) := by decide +kernel
theorem d_M_opinion_150 : decode prog_7_method_19_code 150 = .ok (.iload 6, 2) := by decide +kernel
theorem d_M_opinion_152 : decode prog_7_method_19_code 152 = .ok (.iload_n 1, 1) := by decide +kernel
theorem d_M_opinion_153 : decode prog_7_method_19_code 153 = .ok (.iastore, 1) := by decide +kernel
theorem d_M_opinion_154 : decode prog_7_method_19_code 154 = .ok (.aload_n 0, 1) := by decide +kernel
theorem d_M_opinion_155 : decode prog_7_method_19_code 155 = .ok (.getfield 59, 3) := by decide +kernel
theorem d_M_opinion_158 : decode prog_7_method_19_code 158 = .ok (.iload 6, 2) := by decide +kernel
theorem d_M_opinion_160 : decode prog_7_method_19_code 160 = .ok (.iload_n 2, 1) := by decide +kernel
theorem d_M_opinion_161 : decode prog_7_method_19_code 161 = .ok (.iastore, 1) := by decide +kernel
theorem d_M_opinion_162 : decode prog_7_method_19_code 162 = .ok (.aload_n 0, 1) := by decide +kernel
theorem d_M_opinion_163 : decode prog_7_method_19_code 163 = .ok (.getfield 62, 3) := by decide +kernel
theorem d_M_opinion_166 : decode prog_7_method_19_code 166 = .ok (.iload 6, 2) := by decide +kernel
theorem d_M_opinion_168 : decode prog_7_method_19_code 168 = .ok (.iload_n 3, 1) := by decide +kernel
theorem d_M_opinion_169 : decode prog_7_method_19_code 169 = .ok (.iastore, 1) := by decide +kernel
theorem d_M_opinion_170 : decode prog_7_method_19_code 170 = .ok (.aload_n 0, 1) := by decide +kernel
theorem d_M_opinion_171 : decode prog_7_method_19_code 171 = .ok (.getfield 65, 3) := by decide +kernel
theorem d_M_opinion_174 : decode prog_7_method_19_code 174 = .ok (.iload 6, 2) := by decide +kernel
theorem d_M_opinion_176 : decode prog_7_method_19_code 176 = .ok (.iload 4, 2) := by decide +kernel
theorem d_M_opinion_178 : decode prog_7_method_19_code 178 = .ok (.iastore, 1) := by decide +kernel
theorem d_M_opinion_179 : decode prog_7_method_19_code 179 = .ok (.aload_n 0, 1) := by decide +kernel
theorem d_M_opinion_180 : decode prog_7_method_19_code 180 = .ok (.getfield 68, 3) := by decide +kernel
theorem d_M_opinion_183 : decode prog_7_method_19_code 183 = .ok (.iload 6, 2) := by decide +kernel
theorem d_M_opinion_185 : decode prog_7_method_19_code 185 = .ok (.iload 5, 2) := by decide +kernel
theorem d_M_opinion_187 : decode prog_7_method_19_code 187 = .ok (.iastore, 1) := by decide +kernel
theorem d_M_opinion_188 : decode prog_7_method_19_code 188 = .ok (.aload_n 0, 1) := by decide +kernel
theorem d_M_opinion_189 : decode prog_7_method_19_code 189 = .ok (.iload 6, 2) := by decide +kernel
theorem d_M_opinion_191 : decode prog_7_method_19_code 191 = .ok (.aload_n 0, 1) := by decide +kernel
theorem d_M_opinion_192 : decode prog_7_method_19_code 192 = .ok (.getfield 116, 3) := by decide +kernel
theorem d_M_opinion_195 : decode prog_7_method_19_code 195 = .ok (.if_icmp .ne 12, 3) := by decide +kernel
theorem d_M_opinion_198 : decode prog_7_method_19_code 198 = .ok (.aload_n 0, 1) := by decide +kernel
theorem d_M_opinion_199 : decode prog_7_method_19_code 199 = .ok (.getfield 116, 3) := by decide +kernel
theorem d_M_opinion_202 : decode prog_7_method_19_code 202 = .ok (.iconst 1, 1) := by decide +kernel
theorem d_M_opinion_203 : decode prog_7_method_19_code 203 = .ok (.iadd, 1) := by decide +kernel
theorem d_M_opinion_204 : decode prog_7_method_19_code 204 = .ok (.goto 7, 3) := by decide +kernel
theorem d_M_opinion_207 : decode prog_7_method_19_code 207 = .ok (.aload_n 0, 1) := by decide +kernel
theorem d_M_opinion_208 : decode prog_7_method_19_code 208 = .ok (.getfield 116, 3) := by decide +kernel
theorem d_M_opinion_211 : decode prog_7_method_19_code 211 = .ok (.putfield 116, 3) := by decide +kernel
theorem d_M_opinion_214 : decode prog_7_method_19_code 214 = .ok (.aload_n 0, 1) := by decide +kernel
theorem d_M_opinion_215 : decode prog_7_method_19_code 215 = .ok (.iload_n 2, 1) := by decide +kernel
theorem d_M_opinion_216 : decode prog_7_method_19_code 216 = .ok (.invokevirtual 119, 3) := by decide +kernel
theorem d_M_opinion_219 : decode prog_7_method_19_code 219 = .ok (.ireturn, 1) := by decide +kernel
theorem d_M_rule_0 : decode prog_7_method_20_code 0 = .ok (.aload_n 0, 1) := by decide +kernel
theorem d_M_rule_1 : decode prog_7_method_20_code 1 = .ok (.aload_n 0, 1) := by decide +kernel
theorem d_M_rule_2 : decode prog_7_method_20_code 2 = .ok (.iload_n 1, 1) := by decide +kernel
theorem d_M_rule_3 : decode prog_7_method_20_code 3 = .ok (.invokevirtual 103, 3) := by decide +kernel
theorem d_M_rule_6 : decode prog_7_method_20_code 6 = .ok (.iload_n 2, 1) := by decide +kernel
theorem d_M_rule_7 : decode prog_7_method_20_code 7 = .ok (.iconst 0, 1) := by decide +kernel
theorem d_M_rule_8 : decode prog_7_method_20_code 8 = .ok (.iconst 2, 1) := by decide +kernel
theorem d_M_rule_9 : decode prog_7_method_20_code 9 = .ok (.invokestatic 88, 3) := by decide +kernel
theorem d_M_rule_12 : decode prog_7_method_20_code 12 = .ok (.iconst 1, 1) := by decide +kernel
theorem d_M_rule_13 : decode prog_7_method_20_code 13 = .ok (.invokevirtual 95, 3) := by decide +kernel
theorem d_M_rule_16 : decode prog_7_method_20_code 16 = .ok (.ifCond .ne 5, 3) := by decide +kernel
theorem d_M_rule_19 : decode prog_7_method_20_code 19 = .ok (.iconst 0, 1) := by decide +kernel
theorem d_M_rule_20 : decode prog_7_method_20_code 20 = .ok (.ireturn, 1) := by decide +kernel
theorem d_M_rule_21 : decode prog_7_method_20_code 21 = .ok (.aload_n 0, 1) := by decide +kernel
theorem d_M_rule_22 : decode prog_7_method_20_code 22 = .ok (.getfield 41, 3) := by decide +kernel
theorem d_M_rule_25 : decode prog_7_method_20_code 25 = .ok (.iload_n 1, 1) := by decide +kernel
theorem d_M_rule_26 : decode prog_7_method_20_code 26 = .ok (.iaload, 1) := by decide +kernel
theorem d_M_rule_27 : decode prog_7_method_20_code 27 = .ok (.istore_n 3, 1) := by decide +kernel
theorem d_M_rule_28 : decode prog_7_method_20_code 28 = .ok (.aload_n 0, 1) := by decide +kernel
theorem d_M_rule_29 : decode prog_7_method_20_code 29 = .ok (.getfield 41, 3) := by decide +kernel
theorem d_M_rule_32 : decode prog_7_method_20_code 32 = .ok (.iload_n 1, 1) := by decide +kernel
theorem d_M_rule_33 : decode prog_7_method_20_code 33 = .ok (.iload_n 2, 1) := by decide +kernel
theorem d_M_rule_34 : decode prog_7_method_20_code 34 = .ok (.iastore, 1) := by decide +kernel
theorem d_M_rule_35 : decode prog_7_method_20_code 35 = .ok (.iload_n 3, 1) := by decide +kernel
theorem d_M_rule_36 : decode prog_7_method_20_code 36 = .ok (.ireturn, 1) := by decide +kernel
theorem d_M_hold_0 : decode prog_7_method_21_code 0 = .ok (.iconst 0, 1) := by decide +kernel
theorem d_M_hold_1 : decode prog_7_method_21_code 1 = .ok (.istore_n 3, 1) := by decide +kernel
theorem d_M_hold_2 : decode prog_7_method_21_code 2 = .ok (.iload_n 3, 1) := by decide +kernel
theorem d_M_hold_3 : decode prog_7_method_21_code 3 = .ok (.bipush 24, 2) := by decide +kernel
theorem d_M_hold_5 : decode prog_7_method_21_code 5 = .ok (.if_icmp .ge 120, 3) := by decide +kernel
theorem d_M_hold_8 : decode prog_7_method_21_code 8 = .ok (.aload_n 0, 1) := by decide +kernel
theorem d_M_hold_9 : decode prog_7_method_21_code 9 = .ok (.getfield 50, 3) := by decide +kernel
theorem d_M_hold_12 : decode prog_7_method_21_code 12 = .ok (.iload_n 3, 1) := by decide +kernel
theorem d_M_hold_13 : decode prog_7_method_21_code 13 = .ok (.iconst 0, 1) := by decide +kernel
theorem d_M_hold_14 : decode prog_7_method_21_code 14 = .ok (.bastore, 1) := by decide +kernel
theorem d_M_hold_15 : decode prog_7_method_21_code 15 = .ok (.iconst 0, 1) := by decide +kernel
theorem d_M_hold_16 : decode prog_7_method_21_code 16 = .ok (.istore 4, 2) := by decide +kernel
theorem d_M_hold_18 : decode prog_7_method_21_code 18 = .ok (.iload 4, 2) := by decide +kernel
theorem d_M_hold_20 : decode prog_7_method_21_code 20 = .ok (.aload_n 0, 1) := by decide +kernel
theorem d_M_hold_21 : decode prog_7_method_21_code 21 = .ok (.getfield 82, 3) := by decide +kernel
theorem d_M_hold_24 : decode prog_7_method_21_code 24 = .ok (.if_icmp .ge 95, 3) := by decide +kernel
theorem d_M_hold_27 : decode prog_7_method_21_code 27 = .ok (.iload 4, 2) := by decide +kernel
theorem d_M_hold_29 : decode prog_7_method_21_code 29 = .ok (.iload_n 2, 1) := by decide +kernel
theorem d_M_hold_30 : decode prog_7_method_21_code 30 = .ok (.if_icmp .eq 40, 3) := by decide +kernel
theorem d_M_hold_33 : decode prog_7_method_21_code 33 = .ok (.aload_n 0, 1) := by decide +kernel
theorem d_M_hold_34 : decode prog_7_method_21_code 34 = .ok (.getfield 16, 3) := by decide +kernel
theorem d_M_hold_37 : decode prog_7_method_21_code 37 = .ok (.iload 4, 2) := by decide +kernel
theorem d_M_hold_39 : decode prog_7_method_21_code 39 = .ok (.iaload, 1) := by decide +kernel
theorem d_M_hold_40 : decode prog_7_method_21_code 40 = .ok (.iload_n 1, 1) := by decide +kernel
theorem d_M_hold_41 : decode prog_7_method_21_code 41 = .ok (.if_icmp .gt 29, 3) := by decide +kernel
theorem d_M_hold_44 : decode prog_7_method_21_code 44 = .ok (.aload_n 0, 1) := by decide +kernel
theorem d_M_hold_45 : decode prog_7_method_21_code 45 = .ok (.getfield 19, 3) := by decide +kernel
theorem d_M_hold_48 : decode prog_7_method_21_code 48 = .ok (.iload 4, 2) := by decide +kernel
theorem d_M_hold_50 : decode prog_7_method_21_code 50 = .ok (.iaload, 1) := by decide +kernel
theorem d_M_hold_51 : decode prog_7_method_21_code 51 = .ok (.iconst (-1), 1) := by decide +kernel
theorem d_M_hold_52 : decode prog_7_method_21_code 52 = .ok (.if_icmp .eq 14, 3) := by decide +kernel
theorem d_M_hold_55 : decode prog_7_method_21_code 55 = .ok (.aload_n 0, 1) := by decide +kernel
theorem d_M_hold_56 : decode prog_7_method_21_code 56 = .ok (.getfield 19, 3) := by decide +kernel
theorem d_M_hold_59 : decode prog_7_method_21_code 59 = .ok (.iload 4, 2) := by decide +kernel
theorem d_M_hold_61 : decode prog_7_method_21_code 61 = .ok (.iaload, 1) := by decide +kernel
theorem d_M_hold_62 : decode prog_7_method_21_code 62 = .ok (.iload_n 1, 1) := by decide +kernel
theorem d_M_hold_63 : decode prog_7_method_21_code 63 = .ok (.if_icmp .le 7, 3) := by decide +kernel
theorem d_M_hold_66 : decode prog_7_method_21_code 66 = .ok (.iconst 1, 1) := by decide +kernel
theorem d_M_hold_67 : decode prog_7_method_21_code 67 = .ok (.goto 4, 3) := by decide +kernel
theorem d_M_hold_70 : decode prog_7_method_21_code 70 = .ok (.iconst 0, 1) := by decide +kernel
theorem d_M_hold_71 : decode prog_7_method_21_code 71 = .ok (.istore 5, 2) := by decide +kernel
theorem d_M_hold_73 : decode prog_7_method_21_code 73 = .ok (.aload_n 0, 1) := by decide +kernel
theorem d_M_hold_74 : decode prog_7_method_21_code 74 = .ok (.getfield 50, 3) := by decide +kernel
theorem d_M_hold_77 : decode prog_7_method_21_code 77 = .ok (.iload_n 3, 1) := by decide +kernel
theorem d_M_hold_78 : decode prog_7_method_21_code 78 = .ok (.aload_n 0, 1) := by decide +kernel
theorem d_M_hold_79 : decode prog_7_method_21_code 79 = .ok (.getfield 50, 3) := by decide +kernel
theorem d_M_hold_82 : decode prog_7_method_21_code 82 = .ok (.iload_n 3, 1) := by decide +kernel
theorem d_M_hold_83 : decode prog_7_method_21_code 83 = .ok (.baload, 1) := by decide +kernel
theorem d_M_hold_84 : decode prog_7_method_21_code 84 = .ok (.ifCond .ne 23, 3) := by decide +kernel
theorem d_M_hold_87 : decode prog_7_method_21_code 87 = .ok (.aload_n 0, 1) := by decide +kernel
theorem d_M_hold_88 : decode prog_7_method_21_code 88 = .ok (.getfield 34, 3) := by decide +kernel
theorem d_M_hold_91 : decode prog_7_method_21_code 91 = .ok (.bipush 24, 2) := by decide +kernel
theorem d_M_hold_93 : decode prog_7_method_21_code 93 = .ok (.iload_n 3, 1) := by decide +kernel
theorem d_M_hold_94 : decode prog_7_method_21_code 94 = .ok (.imul, 1) := by decide +kernel
theorem d_M_hold_95 : decode prog_7_method_21_code 95 = .ok (.iload 4, 2) := by decide +kernel
theorem d_M_hold_97 : decode prog_7_method_21_code 97 = .ok (.iadd, 1) := by decide +kernel
theorem d_M_hold_98 : decode prog_7_method_21_code 98 = .ok (.baload, 1) := by decide +kernel
theorem d_M_hold_99 : decode prog_7_method_21_code 99 = .ok (.ifCond .eq 12, 3) := by decide +kernel
theorem d_M_hold_102 : decode prog_7_method_21_code 102 = .ok (.iload 5, 2) := by decide +kernel
theorem d_M_hold_104 : decode prog_7_method_21_code 104 = .ok (.ifCond .eq 7, 3) := by decide +kernel
theorem d_M_hold_107 : decode prog_7_method_21_code 107 = .ok (.iconst 1, 1) := by decide +kernel
theorem d_M_hold_108 : decode prog_7_method_21_code 108 = .ok (.goto 4, 3) := by decide +kernel
theorem d_M_hold_111 : decode prog_7_method_21_code 111 = .ok (.iconst 0, 1) := by decide +kernel
theorem d_M_hold_112 : decode prog_7_method_21_code 112 = .ok (.bastore, 1) := by decide +kernel
theorem d_M_hold_113 : decode prog_7_method_21_code 113 = .ok (.iinc 4 1, 3) := by decide +kernel
theorem d_M_hold_116 : decode prog_7_method_21_code 116 = .ok (.goto (-98), 3) := by decide +kernel
theorem d_M_hold_119 : decode prog_7_method_21_code 119 = .ok (.iinc 3 1, 3) := by decide +kernel
theorem d_M_hold_122 : decode prog_7_method_21_code 122 = .ok (.goto (-120), 3) := by decide +kernel
theorem d_M_hold_125 : decode prog_7_method_21_code 125 = .ok (.iconst 0, 1) := by decide +kernel
theorem d_M_hold_126 : decode prog_7_method_21_code 126 = .ok (.istore_n 3, 1) := by decide +kernel
theorem d_M_hold_127 : decode prog_7_method_21_code 127 = .ok (.iload_n 3, 1) := by decide +kernel
theorem d_M_hold_128 : decode prog_7_method_21_code 128 = .ok (.aload_n 0, 1) := by decide +kernel
theorem d_M_hold_129 : decode prog_7_method_21_code 129 = .ok (.getfield 85, 3) := by decide +kernel
theorem d_M_hold_132 : decode prog_7_method_21_code 132 = .ok (.if_icmp .ge 77, 3) := by decide +kernel
theorem d_M_hold_135 : decode prog_7_method_21_code 135 = .ok (.iconst 0, 1) := by decide +kernel
theorem d_M_hold_136 : decode prog_7_method_21_code 136 = .ok (.istore 4, 2) := by decide +kernel
theorem d_M_hold_138 : decode prog_7_method_21_code 138 = .ok (.iload 4, 2) := by decide +kernel
theorem d_M_hold_140 : decode prog_7_method_21_code 140 = .ok (.sipush 576, 3) := by decide +kernel
theorem d_M_hold_143 : decode prog_7_method_21_code 143 = .ok (.if_icmp .ge 60, 3) := by decide +kernel
theorem d_M_hold_146 : decode prog_7_method_21_code 146 = .ok (.aload_n 0, 1) := by decide +kernel
theorem d_M_hold_147 : decode prog_7_method_21_code 147 = .ok (.getfield 50, 3) := by decide +kernel
theorem d_M_hold_150 : decode prog_7_method_21_code 150 = .ok (.iload 4, 2) := by decide +kernel
theorem d_M_hold_152 : decode prog_7_method_21_code 152 = .ok (.bipush 24, 2) := by decide +kernel
theorem d_M_hold_154 : decode prog_7_method_21_code 154 = .ok (.idiv, 1) := by decide +kernel
theorem d_M_hold_155 : decode prog_7_method_21_code 155 = .ok (.aload_n 0, 1) := by decide +kernel
theorem d_M_hold_156 : decode prog_7_method_21_code 156 = .ok (.getfield 50, 3) := by decide +kernel
theorem d_M_hold_159 : decode prog_7_method_21_code 159 = .ok (.iload 4, 2) := by decide +kernel
theorem d_M_hold_161 : decode prog_7_method_21_code 161 = .ok (.bipush 24, 2) := by decide +kernel
theorem d_M_hold_163 : decode prog_7_method_21_code 163 = .ok (.idiv, 1) := by decide +kernel
theorem d_M_hold_164 : decode prog_7_method_21_code 164 = .ok (.baload, 1) := by decide +kernel
theorem d_M_hold_165 : decode prog_7_method_21_code 165 = .ok (.ifCond .ne 26, 3) := by decide +kernel
theorem d_M_hold_168 : decode prog_7_method_21_code 168 = .ok (.aload_n 0, 1) := by decide +kernel
theorem d_M_hold_169 : decode prog_7_method_21_code 169 = .ok (.getfield 38, 3) := by decide +kernel
theorem d_M_hold_172 : decode prog_7_method_21_code 172 = .ok (.iload 4, 2) := by decide +kernel
theorem d_M_hold_174 : decode prog_7_method_21_code 174 = .ok (.baload, 1) := by decide +kernel
theorem d_M_hold_175 : decode prog_7_method_21_code 175 = .ok (.ifCond .eq 20, 3) := by decide +kernel
theorem d_M_hold_178 : decode prog_7_method_21_code 178 = .ok (.aload_n 0, 1) := by decide +kernel
theorem d_M_hold_179 : decode prog_7_method_21_code 179 = .ok (.getfield 50, 3) := by decide +kernel
theorem d_M_hold_182 : decode prog_7_method_21_code 182 = .ok (.iload 4, 2) := by decide +kernel
theorem d_M_hold_184 : decode prog_7_method_21_code 184 = .ok (.bipush 24, 2) := by decide +kernel
theorem d_M_hold_186 : decode prog_7_method_21_code 186 = .ok (.irem, 1) := by decide +kernel
theorem d_M_hold_187 : decode prog_7_method_21_code 187 = .ok (.baload, 1) := by decide +kernel
theorem d_M_hold_188 : decode prog_7_method_21_code 188 = .ok (.ifCond .eq 7, 3) := by decide +kernel
theorem d_M_hold_191 : decode prog_7_method_21_code 191 = .ok (.iconst 1, 1) := by decide +kernel
theorem d_M_hold_192 : decode prog_7_method_21_code 192 = .ok (.goto 4, 3) := by decide +kernel
theorem d_M_hold_195 : decode prog_7_method_21_code 195 = .ok (.iconst 0, 1) := by decide +kernel
theorem d_M_hold_196 : decode prog_7_method_21_code 196 = .ok (.bastore, 1) := by decide +kernel
theorem d_M_hold_197 : decode prog_7_method_21_code 197 = .ok (.iinc 4 1, 3) := by decide +kernel
theorem d_M_hold_200 : decode prog_7_method_21_code 200 = .ok (.goto (-62), 3) := by decide +kernel
theorem d_M_hold_203 : decode prog_7_method_21_code 203 = .ok (.iinc 3 1, 3) := by decide +kernel
theorem d_M_hold_206 : decode prog_7_method_21_code 206 = .ok (.goto (-79), 3) := by decide +kernel
theorem d_M_hold_209 : decode prog_7_method_21_code 209 = .ok (.return_, 1) := by decide +kernel
theorem d_M_know_0 : decode prog_7_method_22_code 0 = .ok (.iconst 0, 1) := by decide +kernel
theorem d_M_know_1 : decode prog_7_method_22_code 1 = .ok (.istore_n 3, 1) := by decide +kernel
theorem d_M_know_2 : decode prog_7_method_22_code 2 = .ok (.iconst 0, 1) := by decide +kernel
theorem d_M_know_3 : decode prog_7_method_22_code 3 = .ok (.istore 4, 2) := by decide +kernel
theorem d_M_know_5 : decode prog_7_method_22_code 5 = .ok (.iload 4, 2) := by decide +kernel
theorem d_M_know_7 : decode prog_7_method_22_code 7 = .ok (.bipush 32, 2) := by decide +kernel
theorem d_M_know_9 : decode prog_7_method_22_code 9 = .ok (.if_icmp .ge 152, 3) := by decide +kernel
theorem d_M_know_12 : decode prog_7_method_22_code 12 = .ok (.aload_n 0, 1) := by decide +kernel
theorem d_M_know_13 : decode prog_7_method_22_code 13 = .ok (.getfield 71, 3) := by decide +kernel
theorem d_M_know_16 : decode prog_7_method_22_code 16 = .ok (.iload 4, 2) := by decide +kernel
theorem d_M_know_18 : decode prog_7_method_22_code 18 = .ok (.iconst (-1), 1) := by decide +kernel
theorem d_M_know_19 : decode prog_7_method_22_code 19 = .ok (.iastore, 1) := by decide +kernel
theorem d_M_know_20 : decode prog_7_method_22_code 20 = .ok (.iconst 0, 1) := by decide +kernel
theorem d_M_know_21 : decode prog_7_method_22_code 21 = .ok (.istore 5, 2) := by decide +kernel
theorem d_M_know_23 : decode prog_7_method_22_code 23 = .ok (.iload 5, 2) := by decide +kernel
theorem d_M_know_25 : decode prog_7_method_22_code 25 = .ok (.aload_n 0, 1) := by decide +kernel
theorem d_M_know_26 : decode prog_7_method_22_code 26 = .ok (.getfield 116, 3) := by decide +kernel
theorem d_M_know_29 : decode prog_7_method_22_code 29 = .ok (.if_icmp .ge 107, 3) := by decide +kernel
theorem d_M_know_32 : decode prog_7_method_22_code 32 = .ok (.aload_n 0, 1) := by decide +kernel
theorem d_M_know_33 : decode prog_7_method_22_code 33 = .ok (.getfield 56, 3) := by decide +kernel
theorem d_M_know_36 : decode prog_7_method_22_code 36 = .ok (.iload 5, 2) := by decide +kernel
theorem d_M_know_38 : decode prog_7_method_22_code 38 = .ok (.iaload, 1) := by decide +kernel
theorem d_M_know_39 : decode prog_7_method_22_code 39 = .ok (.iload 4, 2) := by decide +kernel
theorem d_M_know_41 : decode prog_7_method_22_code 41 = .ok (.if_icmp .ne 29, 3) := by decide +kernel
theorem d_M_know_44 : decode prog_7_method_22_code 44 = .ok (.aload_n 0, 1) := by decide +kernel
theorem d_M_know_45 : decode prog_7_method_22_code 45 = .ok (.getfield 59, 3) := by decide +kernel
theorem d_M_know_48 : decode prog_7_method_22_code 48 = .ok (.iload 5, 2) := by decide +kernel
theorem d_M_know_50 : decode prog_7_method_22_code 50 = .ok (.iaload, 1) := by decide +kernel
theorem d_M_know_51 : decode prog_7_method_22_code 51 = .ok (.iload_n 1, 1) := by decide +kernel
theorem d_M_know_52 : decode prog_7_method_22_code 52 = .ok (.if_icmp .ne 18, 3) := by decide +kernel
theorem d_M_know_55 : decode prog_7_method_22_code 55 = .ok (.aload_n 0, 1) := by decide +kernel
theorem d_M_know_56 : decode prog_7_method_22_code 56 = .ok (.getfield 65, 3) := by decide +kernel
theorem d_M_know_59 : decode prog_7_method_22_code 59 = .ok (.iload 5, 2) := by decide +kernel
theorem d_M_know_61 : decode prog_7_method_22_code 61 = .ok (.iaload, 1) := by decide +kernel
theorem d_M_know_62 : decode prog_7_method_22_code 62 = .ok (.iload_n 2, 1) := by decide +kernel
theorem d_M_know_63 : decode prog_7_method_22_code 63 = .ok (.if_icmp .gt 7, 3) := by decide +kernel
theorem d_M_know_66 : decode prog_7_method_22_code 66 = .ok (.iconst 1, 1) := by decide +kernel
theorem d_M_know_67 : decode prog_7_method_22_code 67 = .ok (.goto 4, 3) := by decide +kernel
theorem d_M_know_70 : decode prog_7_method_22_code 70 = .ok (.iconst 0, 1) := by decide +kernel
theorem d_M_know_71 : decode prog_7_method_22_code 71 = .ok (.istore 6, 2) := by decide +kernel
theorem d_M_know_73 : decode prog_7_method_22_code 73 = .ok (.aload_n 0, 1) := by decide +kernel
theorem d_M_know_74 : decode prog_7_method_22_code 74 = .ok (.getfield 71, 3) := by decide +kernel
theorem d_M_know_77 : decode prog_7_method_22_code 77 = .ok (.iload 4, 2) := by decide +kernel
theorem d_M_know_79 : decode prog_7_method_22_code 79 = .ok (.iload 6, 2) := by decide +kernel
theorem d_M_know_81 : decode prog_7_method_22_code 81 = .ok (.ifCond .eq 41, 3) := by decide +kernel
theorem d_M_know_84 : decode prog_7_method_22_code 84 = .ok (.aload_n 0, 1) := by decide +kernel
theorem d_M_know_85 : decode prog_7_method_22_code 85 = .ok (.getfield 71, 3) := by decide +kernel
theorem d_M_know_88 : decode prog_7_method_22_code 88 = .ok (.iload 4, 2) := by decide +kernel
theorem d_M_know_90 : decode prog_7_method_22_code 90 = .ok (.iaload, 1) := by decide +kernel
theorem d_M_know_91 : decode prog_7_method_22_code 91 = .ok (.iconst (-1), 1) := by decide +kernel
theorem d_M_know_92 : decode prog_7_method_22_code 92 = .ok (.if_icmp .eq 25, 3) := by decide +kernel
theorem d_M_know_95 : decode prog_7_method_22_code 95 = .ok (.aload_n 0, 1) := by decide +kernel
theorem d_M_know_96 : decode prog_7_method_22_code 96 = .ok (.getfield 65, 3) := by decide +kernel
theorem d_M_know_99 : decode prog_7_method_22_code 99 = .ok (.aload_n 0, 1) := by decide +kernel
theorem d_M_know_100 : decode prog_7_method_22_code 100 = .ok (.getfield 71, 3) := by decide +kernel
theorem d_M_know_103 : decode prog_7_method_22_code 103 = .ok (.iload 4, 2) := by decide +kernel
theorem d_M_know_105 : decode prog_7_method_22_code 105 = .ok (.iaload, 1) := by decide +kernel
theorem d_M_know_106 : decode prog_7_method_22_code 106 = .ok (.iaload, 1) := by decide +kernel
theorem d_M_know_107 : decode prog_7_method_22_code 107 = .ok (.aload_n 0, 1) := by decide +kernel
theorem d_M_know_108 : decode prog_7_method_22_code 108 = .ok (.getfield 65, 3) := by decide +kernel
theorem d_M_know_111 : decode prog_7_method_22_code 111 = .ok (.iload 5, 2) := by decide +kernel
theorem d_M_know_113 : decode prog_7_method_22_code 113 = .ok (.iaload, 1) := by decide +kernel
theorem d_M_know_114 : decode prog_7_method_22_code 114 = .ok (.if_icmp .ge 8, 3) := by decide +kernel
theorem d_M_know_117 : decode prog_7_method_22_code 117 = .ok (.iload 5, 2) := by decide +kernel
theorem d_M_know_119 : decode prog_7_method_22_code 119 = .ok (.goto 10, 3) := by decide +kernel
theorem d_M_know_122 : decode prog_7_method_22_code 122 = .ok (.aload_n 0, 1) := by decide +kernel
theorem d_M_know_123 : decode prog_7_method_22_code 123 = .ok (.getfield 71, 3) := by decide +kernel
theorem d_M_know_126 : decode prog_7_method_22_code 126 = .ok (.iload 4, 2) := by decide +kernel
theorem d_M_know_128 : decode prog_7_method_22_code 128 = .ok (.iaload, 1) := by decide +kernel
theorem d_M_know_129 : decode prog_7_method_22_code 129 = .ok (.iastore, 1) := by decide +kernel
theorem d_M_know_130 : decode prog_7_method_22_code 130 = .ok (.iinc 5 1, 3) := by decide +kernel
theorem d_M_know_133 : decode prog_7_method_22_code 133 = .ok (.goto (-110), 3) := by decide +kernel
theorem d_M_know_136 : decode prog_7_method_22_code 136 = .ok (.aload_n 0, 1) := by decide +kernel
theorem d_M_know_137 : decode prog_7_method_22_code 137 = .ok (.getfield 71, 3) := by decide +kernel
theorem d_M_know_140 : decode prog_7_method_22_code 140 = .ok (.iload 4, 2) := by decide +kernel
theorem d_M_know_142 : decode prog_7_method_22_code 142 = .ok (.iaload, 1) := by decide +kernel
theorem d_M_know_143 : decode prog_7_method_22_code 143 = .ok (.iconst (-1), 1) := by decide +kernel
theorem d_M_know_144 : decode prog_7_method_22_code 144 = .ok (.if_icmp .ne 7, 3) := by decide +kernel
theorem d_M_know_147 : decode prog_7_method_22_code 147 = .ok (.iload_n 3, 1) := by decide +kernel
theorem d_M_know_148 : decode prog_7_method_22_code 148 = .ok (.goto 6, 3) := by decide +kernel
theorem d_M_know_151 : decode prog_7_method_22_code 151 = .ok (.iload_n 3, 1) := by decide +kernel
theorem d_M_know_152 : decode prog_7_method_22_code 152 = .ok (.iconst 1, 1) := by decide +kernel
theorem d_M_know_153 : decode prog_7_method_22_code 153 = .ok (.iadd, 1) := by decide +kernel
theorem d_M_know_154 : decode prog_7_method_22_code 154 = .ok (.istore_n 3, 1) := by decide +kernel
theorem d_M_know_155 : decode prog_7_method_22_code 155 = .ok (.iinc 4 1, 3) := by decide +kernel
theorem d_M_know_158 : decode prog_7_method_22_code 158 = .ok (.goto (-153), 3) := by decide +kernel
theorem d_M_know_161 : decode prog_7_method_22_code 161 = .ok (.iload_n 3, 1) := by decide +kernel
theorem d_M_know_162 : decode prog_7_method_22_code 162 = .ok (.ireturn, 1) := by decide +kernel
theorem d_M_most_0 : decode prog_7_method_23_code 0 = .ok (.iconst 0, 1) := by decide +kernel
theorem d_M_most_1 : decode prog_7_method_23_code 1 = .ok (.istore_n 1, 1) := by decide +kernel
theorem d_M_most_2 : decode prog_7_method_23_code 2 = .ok (.bipush (-2), 2) := by decide +kernel
theorem d_M_most_4 : decode prog_7_method_23_code 4 = .ok (.istore_n 2, 1) := by decide +kernel
theorem d_M_most_5 : decode prog_7_method_23_code 5 = .ok (.iconst 0, 1) := by decide +kernel
theorem d_M_most_6 : decode prog_7_method_23_code 6 = .ok (.istore_n 3, 1) := by decide +kernel
theorem d_M_most_7 : decode prog_7_method_23_code 7 = .ok (.iload_n 3, 1) := by decide +kernel
theorem d_M_most_8 : decode prog_7_method_23_code 8 = .ok (.bipush 100, 2) := by decide +kernel
theorem d_M_most_10 : decode prog_7_method_23_code 10 = .ok (.if_icmp .ge 65, 3) := by decide +kernel
theorem d_M_most_13 : decode prog_7_method_23_code 13 = .ok (.aload_n 0, 1) := by decide +kernel
theorem d_M_most_14 : decode prog_7_method_23_code 14 = .ok (.getfield 74, 3) := by decide +kernel
theorem d_M_most_17 : decode prog_7_method_23_code 17 = .ok (.iload_n 3, 1) := by decide +kernel
theorem d_M_most_18 : decode prog_7_method_23_code 18 = .ok (.iaload, 1) := by decide +kernel
theorem d_M_most_19 : decode prog_7_method_23_code 19 = .ok (.iload_n 1, 1) := by decide +kernel
theorem d_M_most_20 : decode prog_7_method_23_code 20 = .ok (.if_icmp .le 7, 3) := by decide +kernel
theorem d_M_most_23 : decode prog_7_method_23_code 23 = .ok (.iload_n 3, 1) := by decide +kernel
theorem d_M_most_24 : decode prog_7_method_23_code 24 = .ok (.goto 23, 3) := by decide +kernel
theorem d_M_most_27 : decode prog_7_method_23_code 27 = .ok (.aload_n 0, 1) := by decide +kernel
theorem d_M_most_28 : decode prog_7_method_23_code 28 = .ok (.getfield 74, 3) := by decide +kernel
theorem d_M_most_31 : decode prog_7_method_23_code 31 = .ok (.iload_n 3, 1) := by decide +kernel
theorem d_M_most_32 : decode prog_7_method_23_code 32 = .ok (.iaload, 1) := by decide +kernel
theorem d_M_most_33 : decode prog_7_method_23_code 33 = .ok (.iload_n 1, 1) := by decide +kernel
theorem d_M_most_34 : decode prog_7_method_23_code 34 = .ok (.if_icmp .ne 12, 3) := by decide +kernel
theorem d_M_most_37 : decode prog_7_method_23_code 37 = .ok (.iload_n 1, 1) := by decide +kernel
theorem d_M_most_38 : decode prog_7_method_23_code 38 = .ok (.ifCond .le 8, 3) := by decide +kernel
theorem d_M_most_41 : decode prog_7_method_23_code 41 = .ok (.bipush (-2), 2) := by decide +kernel
theorem d_M_most_43 : decode prog_7_method_23_code 43 = .ok (.goto 4, 3) := by decide +kernel
theorem d_M_most_46 : decode prog_7_method_23_code 46 = .ok (.iload_n 2, 1) := by decide +kernel
theorem d_M_most_47 : decode prog_7_method_23_code 47 = .ok (.istore_n 2, 1) := by decide +kernel
theorem d_M_most_48 : decode prog_7_method_23_code 48 = .ok (.aload_n 0, 1) := by decide +kernel
theorem d_M_most_49 : decode prog_7_method_23_code 49 = .ok (.getfield 74, 3) := by decide +kernel
theorem d_M_most_52 : decode prog_7_method_23_code 52 = .ok (.iload_n 3, 1) := by decide +kernel
theorem d_M_most_53 : decode prog_7_method_23_code 53 = .ok (.iaload, 1) := by decide +kernel
theorem d_M_most_54 : decode prog_7_method_23_code 54 = .ok (.iload_n 1, 1) := by decide +kernel
theorem d_M_most_55 : decode prog_7_method_23_code 55 = .ok (.if_icmp .le 12, 3) := by decide +kernel
theorem d_M_most_58 : decode prog_7_method_23_code 58 = .ok (.aload_n 0, 1) := by decide +kernel
theorem d_M_most_59 : decode prog_7_method_23_code 59 = .ok (.getfield 74, 3) := by decide +kernel
theorem d_M_most_62 : decode prog_7_method_23_code 62 = .ok (.iload_n 3, 1) := by decide +kernel
theorem d_M_most_63 : decode prog_7_method_23_code 63 = .ok (.iaload, 1) := by decide +kernel
theorem d_M_most_64 : decode prog_7_method_23_code 64 = .ok (.goto 4, 3) := by decide +kernel
theorem d_M_most_67 : decode prog_7_method_23_code 67 = .ok (.iload_n 1, 1) := by decide +kernel
theorem d_M_most_68 : decode prog_7_method_23_code 68 = .ok (.istore_n 1, 1) := by decide +kernel
theorem d_M_most_69 : decode prog_7_method_23_code 69 = .ok (.iinc 3 1, 3) := by decide +kernel
theorem d_M_most_72 : decode prog_7_method_23_code 72 = .ok (.goto (-65), 3) := by decide +kernel
theorem d_M_most_75 : decode prog_7_method_23_code 75 = .ok (.iload_n 2, 1) := by decide +kernel
theorem d_M_most_76 : decode prog_7_method_23_code 76 = .ok (.ireturn, 1) := by decide +kernel
theorem d_M_agreedOn_0 : decode prog_7_method_24_code 0 = .ok (.aload_n 0, 1) := by decide +kernel
theorem d_M_agreedOn_1 : decode prog_7_method_24_code 1 = .ok (.iload_n 2, 1) := by decide +kernel
theorem d_M_agreedOn_2 : decode prog_7_method_24_code 2 = .ok (.iconst (-1), 1) := by decide +kernel
theorem d_M_agreedOn_3 : decode prog_7_method_24_code 3 = .ok (.invokevirtual 123, 3) := by decide +kernel
theorem d_M_agreedOn_6 : decode prog_7_method_24_code 6 = .ok (.aload_n 0, 1) := by decide +kernel
theorem d_M_agreedOn_7 : decode prog_7_method_24_code 7 = .ok (.iload_n 1, 1) := by decide +kernel
theorem d_M_agreedOn_8 : decode prog_7_method_24_code 8 = .ok (.iload_n 2, 1) := by decide +kernel
theorem d_M_agreedOn_9 : decode prog_7_method_24_code 9 = .ok (.invokevirtual 127, 3) := by decide +kernel
theorem d_M_agreedOn_12 : decode prog_7_method_24_code 12 = .ok (.ifCond .eq 12, 3) := by decide +kernel
theorem d_M_agreedOn_15 : decode prog_7_method_24_code 15 = .ok (.aload_n 0, 1) := by decide +kernel
theorem d_M_agreedOn_16 : decode prog_7_method_24_code 16 = .ok (.getfield 50, 3) := by decide +kernel
theorem d_M_agreedOn_19 : decode prog_7_method_24_code 19 = .ok (.iload_n 1, 1) := by decide +kernel
theorem d_M_agreedOn_20 : decode prog_7_method_24_code 20 = .ok (.baload, 1) := by decide +kernel
theorem d_M_agreedOn_21 : decode prog_7_method_24_code 21 = .ok (.ifCond .ne 5, 3) := by decide +kernel
theorem d_M_agreedOn_24 : decode prog_7_method_24_code 24 = .ok (.iconst (-1), 1) := by decide +kernel
theorem d_M_agreedOn_25 : decode prog_7_method_24_code 25 = .ok (.ireturn, 1) := by decide +kernel
theorem d_M_agreedOn_26 : decode prog_7_method_24_code 26 = .ok (.iconst (-1), 1) := by decide +kernel
theorem d_M_agreedOn_27 : decode prog_7_method_24_code 27 = .ok (.istore_n 3, 1) := by decide +kernel
theorem d_M_agreedOn_28 : decode prog_7_method_24_code 28 = .ok (.iconst 0, 1) := by decide +kernel
theorem d_M_agreedOn_29 : decode prog_7_method_24_code 29 = .ok (.istore 4, 2) := by decide +kernel
theorem d_M_agreedOn_31 : decode prog_7_method_24_code 31 = .ok (.iload 4, 2) := by decide +kernel
theorem d_M_agreedOn_33 : decode prog_7_method_24_code 33 = .ok (.bipush 32, 2) := by decide +kernel
theorem d_M_agreedOn_35 : decode prog_7_method_24_code 35 = .ok (.if_icmp .ge 96, 3) := by decide +kernel
theorem d_M_agreedOn_38 : decode prog_7_method_24_code 38 = .ok (.aload_n 0, 1) := by decide +kernel
theorem d_M_agreedOn_39 : decode prog_7_method_24_code 39 = .ok (.getfield 71, 3) := by decide +kernel
theorem d_M_agreedOn_42 : decode prog_7_method_24_code 42 = .ok (.iload 4, 2) := by decide +kernel
theorem d_M_agreedOn_44 : decode prog_7_method_24_code 44 = .ok (.iaload, 1) := by decide +kernel
theorem d_M_agreedOn_45 : decode prog_7_method_24_code 45 = .ok (.istore 5, 2) := by decide +kernel
theorem d_M_agreedOn_47 : decode prog_7_method_24_code 47 = .ok (.iload 5, 2) := by decide +kernel
theorem d_M_agreedOn_49 : decode prog_7_method_24_code 49 = .ok (.iconst (-1), 1) := by decide +kernel
theorem d_M_agreedOn_50 : decode prog_7_method_24_code 50 = .ok (.if_icmp .eq 60, 3) := by decide +kernel
theorem d_M_agreedOn_53 : decode prog_7_method_24_code 53 = .ok (.iload_n 3, 1) := by decide +kernel
theorem d_M_agreedOn_54 : decode prog_7_method_24_code 54 = .ok (.iconst (-1), 1) := by decide +kernel
theorem d_M_agreedOn_55 : decode prog_7_method_24_code 55 = .ok (.if_icmp .eq 51, 3) := by decide +kernel
theorem d_M_agreedOn_58 : decode prog_7_method_24_code 58 = .ok (.aload_n 0, 1) := by decide +kernel
theorem d_M_agreedOn_59 : decode prog_7_method_24_code 59 = .ok (.getfield 68, 3) := by decide +kernel
theorem d_M_agreedOn_62 : decode prog_7_method_24_code 62 = .ok (.iload 5, 2) := by decide +kernel
theorem d_M_agreedOn_64 : decode prog_7_method_24_code 64 = .ok (.iaload, 1) := by decide +kernel
theorem d_M_agreedOn_65 : decode prog_7_method_24_code 65 = .ok (.aload_n 0, 1) := by decide +kernel
theorem d_M_agreedOn_66 : decode prog_7_method_24_code 66 = .ok (.getfield 68, 3) := by decide +kernel
theorem d_M_agreedOn_69 : decode prog_7_method_24_code 69 = .ok (.iload_n 3, 1) := by decide +kernel
theorem d_M_agreedOn_70 : decode prog_7_method_24_code 70 = .ok (.iaload, 1) := by decide +kernel
theorem d_M_agreedOn_71 : decode prog_7_method_24_code 71 = .ok (.if_icmp .gt 35, 3) := by decide +kernel
theorem d_M_agreedOn_74 : decode prog_7_method_24_code 74 = .ok (.aload_n 0, 1) := by decide +kernel
theorem d_M_agreedOn_75 : decode prog_7_method_24_code 75 = .ok (.getfield 68, 3) := by decide +kernel
theorem d_M_agreedOn_78 : decode prog_7_method_24_code 78 = .ok (.iload 5, 2) := by decide +kernel
theorem d_M_agreedOn_80 : decode prog_7_method_24_code 80 = .ok (.iaload, 1) := by decide +kernel
theorem d_M_agreedOn_81 : decode prog_7_method_24_code 81 = .ok (.aload_n 0, 1) := by decide +kernel
theorem d_M_agreedOn_82 : decode prog_7_method_24_code 82 = .ok (.getfield 68, 3) := by decide +kernel
theorem d_M_agreedOn_85 : decode prog_7_method_24_code 85 = .ok (.iload_n 3, 1) := by decide +kernel
theorem d_M_agreedOn_86 : decode prog_7_method_24_code 86 = .ok (.iaload, 1) := by decide +kernel
theorem d_M_agreedOn_87 : decode prog_7_method_24_code 87 = .ok (.if_icmp .ne 23, 3) := by decide +kernel
theorem d_M_agreedOn_90 : decode prog_7_method_24_code 90 = .ok (.aload_n 0, 1) := by decide +kernel
theorem d_M_agreedOn_91 : decode prog_7_method_24_code 91 = .ok (.getfield 65, 3) := by decide +kernel
theorem d_M_agreedOn_94 : decode prog_7_method_24_code 94 = .ok (.iload 5, 2) := by decide +kernel
theorem d_M_agreedOn_96 : decode prog_7_method_24_code 96 = .ok (.iaload, 1) := by decide +kernel
theorem d_M_agreedOn_97 : decode prog_7_method_24_code 97 = .ok (.aload_n 0, 1) := by decide +kernel
theorem d_M_agreedOn_98 : decode prog_7_method_24_code 98 = .ok (.getfield 65, 3) := by decide +kernel
theorem d_M_agreedOn_101 : decode prog_7_method_24_code 101 = .ok (.iload_n 3, 1) := by decide +kernel
theorem d_M_agreedOn_102 : decode prog_7_method_24_code 102 = .ok (.iaload, 1) := by decide +kernel
theorem d_M_agreedOn_103 : decode prog_7_method_24_code 103 = .ok (.if_icmp .le 7, 3) := by decide +kernel
theorem d_M_agreedOn_106 : decode prog_7_method_24_code 106 = .ok (.iconst 1, 1) := by decide +kernel
theorem d_M_agreedOn_107 : decode prog_7_method_24_code 107 = .ok (.goto 4, 3) := by decide +kernel
theorem d_M_agreedOn_110 : decode prog_7_method_24_code 110 = .ok (.iconst 0, 1) := by decide +kernel
theorem d_M_agreedOn_111 : decode prog_7_method_24_code 111 = .ok (.istore 6, 2) := by decide +kernel
theorem d_M_agreedOn_113 : decode prog_7_method_24_code 113 = .ok (.iload 6, 2) := by decide +kernel
theorem d_M_agreedOn_115 : decode prog_7_method_24_code 115 = .ok (.ifCond .eq 8, 3) := by decide +kernel
theorem d_M_agreedOn_118 : decode prog_7_method_24_code 118 = .ok (.iload 5, 2) := by decide +kernel
theorem d_M_agreedOn_120 : decode prog_7_method_24_code 120 = .ok (.goto 4, 3) := by decide +kernel
theorem d_M_agreedOn_123 : decode prog_7_method_24_code 123 = .ok (.iload_n 3, 1) := by decide +kernel
theorem d_M_agreedOn_124 : decode prog_7_method_24_code 124 = .ok (.istore_n 3, 1) := by decide +kernel
theorem d_M_agreedOn_125 : decode prog_7_method_24_code 125 = .ok (.iinc 4 1, 3) := by decide +kernel
theorem d_M_agreedOn_128 : decode prog_7_method_24_code 128 = .ok (.goto (-97), 3) := by decide +kernel
theorem d_M_agreedOn_131 : decode prog_7_method_24_code 131 = .ok (.iconst 0, 1) := by decide +kernel
theorem d_M_agreedOn_132 : decode prog_7_method_24_code 132 = .ok (.istore 4, 2) := by decide +kernel
theorem d_M_agreedOn_134 : decode prog_7_method_24_code 134 = .ok (.iload 4, 2) := by decide +kernel
theorem d_M_agreedOn_136 : decode prog_7_method_24_code 136 = .ok (.bipush 100, 2) := by decide +kernel
theorem d_M_agreedOn_138 : decode prog_7_method_24_code 138 = .ok (.if_icmp .ge 17, 3) := by decide +kernel
theorem d_M_agreedOn_141 : decode prog_7_method_24_code 141 = .ok (.aload_n 0, 1) := by decide +kernel
theorem d_M_agreedOn_142 : decode prog_7_method_24_code 142 = .ok (.getfield 74, 3) := by decide +kernel
theorem d_M_agreedOn_145 : decode prog_7_method_24_code 145 = .ok (.iload 4, 2) := by decide +kernel
theorem d_M_agreedOn_147 : decode prog_7_method_24_code 147 = .ok (.iconst 0, 1) := by decide +kernel
theorem d_M_agreedOn_148 : decode prog_7_method_24_code 148 = .ok (.iastore, 1) := by decide +kernel
theorem d_M_agreedOn_149 : decode prog_7_method_24_code 149 = .ok (.iinc 4 1, 3) := by decide +kernel
theorem d_M_agreedOn_152 : decode prog_7_method_24_code 152 = .ok (.goto (-18), 3) := by decide +kernel
theorem d_M_agreedOn_155 : decode prog_7_method_24_code 155 = .ok (.iconst 0, 1) := by decide +kernel
theorem d_M_agreedOn_156 : decode prog_7_method_24_code 156 = .ok (.istore 4, 2) := by decide +kernel
theorem d_M_agreedOn_158 : decode prog_7_method_24_code 158 = .ok (.iload 4, 2) := by decide +kernel
theorem d_M_agreedOn_160 : decode prog_7_method_24_code 160 = .ok (.bipush 32, 2) := by decide +kernel
theorem d_M_agreedOn_162 : decode prog_7_method_24_code 162 = .ok (.if_icmp .ge 117, 3) := by decide +kernel
theorem d_M_agreedOn_165 : decode prog_7_method_24_code 165 = .ok (.aload_n 0, 1) := by decide +kernel
theorem d_M_agreedOn_166 : decode prog_7_method_24_code 166 = .ok (.getfield 71, 3) := by decide +kernel
theorem d_M_agreedOn_169 : decode prog_7_method_24_code 169 = .ok (.iload 4, 2) := by decide +kernel
theorem d_M_agreedOn_171 : decode prog_7_method_24_code 171 = .ok (.iaload, 1) := by decide +kernel
theorem d_M_agreedOn_172 : decode prog_7_method_24_code 172 = .ok (.istore 5, 2) := by decide +kernel
theorem d_M_agreedOn_174 : decode prog_7_method_24_code 174 = .ok (.iload 5, 2) := by decide +kernel
theorem d_M_agreedOn_176 : decode prog_7_method_24_code 176 = .ok (.iconst (-1), 1) := by decide +kernel
theorem d_M_agreedOn_177 : decode prog_7_method_24_code 177 = .ok (.if_icmp .eq 49, 3) := by decide +kernel
theorem d_M_agreedOn_180 : decode prog_7_method_24_code 180 = .ok (.aload_n 0, 1) := by decide +kernel
theorem d_M_agreedOn_181 : decode prog_7_method_24_code 181 = .ok (.getfield 41, 3) := by decide +kernel
theorem d_M_agreedOn_184 : decode prog_7_method_24_code 184 = .ok (.iload_n 1, 1) := by decide +kernel
theorem d_M_agreedOn_185 : decode prog_7_method_24_code 185 = .ok (.iaload, 1) := by decide +kernel
theorem d_M_agreedOn_186 : decode prog_7_method_24_code 186 = .ok (.iconst 1, 1) := by decide +kernel
theorem d_M_agreedOn_187 : decode prog_7_method_24_code 187 = .ok (.if_icmp .ne 35, 3) := by decide +kernel
theorem d_M_agreedOn_190 : decode prog_7_method_24_code 190 = .ok (.aload_n 0, 1) := by decide +kernel
theorem d_M_agreedOn_191 : decode prog_7_method_24_code 191 = .ok (.getfield 68, 3) := by decide +kernel
theorem d_M_agreedOn_194 : decode prog_7_method_24_code 194 = .ok (.iload 5, 2) := by decide +kernel
theorem d_M_agreedOn_196 : decode prog_7_method_24_code 196 = .ok (.iaload, 1) := by decide +kernel
theorem d_M_agreedOn_197 : decode prog_7_method_24_code 197 = .ok (.aload_n 0, 1) := by decide +kernel
theorem d_M_agreedOn_198 : decode prog_7_method_24_code 198 = .ok (.getfield 68, 3) := by decide +kernel
theorem d_M_agreedOn_201 : decode prog_7_method_24_code 201 = .ok (.iload_n 3, 1) := by decide +kernel
theorem d_M_agreedOn_202 : decode prog_7_method_24_code 202 = .ok (.iaload, 1) := by decide +kernel
theorem d_M_agreedOn_203 : decode prog_7_method_24_code 203 = .ok (.if_icmp .ne 23, 3) := by decide +kernel
theorem d_M_agreedOn_206 : decode prog_7_method_24_code 206 = .ok (.aload_n 0, 1) := by decide +kernel
theorem d_M_agreedOn_207 : decode prog_7_method_24_code 207 = .ok (.getfield 65, 3) := by decide +kernel
theorem d_M_agreedOn_210 : decode prog_7_method_24_code 210 = .ok (.iload 5, 2) := by decide +kernel
theorem d_M_agreedOn_212 : decode prog_7_method_24_code 212 = .ok (.iaload, 1) := by decide +kernel
theorem d_M_agreedOn_213 : decode prog_7_method_24_code 213 = .ok (.aload_n 0, 1) := by decide +kernel
theorem d_M_agreedOn_214 : decode prog_7_method_24_code 214 = .ok (.getfield 65, 3) := by decide +kernel
theorem d_M_agreedOn_217 : decode prog_7_method_24_code 217 = .ok (.iload_n 3, 1) := by decide +kernel
theorem d_M_agreedOn_218 : decode prog_7_method_24_code 218 = .ok (.iaload, 1) := by decide +kernel
theorem d_M_agreedOn_219 : decode prog_7_method_24_code 219 = .ok (.if_icmp .ne 7, 3) := by decide +kernel
theorem d_M_agreedOn_222 : decode prog_7_method_24_code 222 = .ok (.iconst 1, 1) := by decide +kernel
theorem d_M_agreedOn_223 : decode prog_7_method_24_code 223 = .ok (.goto 4, 3) := by decide +kernel
theorem d_M_agreedOn_226 : decode prog_7_method_24_code 226 = .ok (.iconst 0, 1) := by decide +kernel
theorem d_M_agreedOn_227 : decode prog_7_method_24_code 227 = .ok (.istore 6, 2) := by decide +kernel
theorem d_M_agreedOn_229 : decode prog_7_method_24_code 229 = .ok (.iload 6, 2) := by decide +kernel
theorem d_M_agreedOn_231 : decode prog_7_method_24_code 231 = .ok (.ifCond .eq 42, 3) := by decide +kernel
theorem d_M_agreedOn_234 : decode prog_7_method_24_code 234 = .ok (.aload_n 0, 1) := by decide +kernel
theorem d_M_agreedOn_235 : decode prog_7_method_24_code 235 = .ok (.getfield 74, 3) := by decide +kernel
theorem d_M_agreedOn_238 : decode prog_7_method_24_code 238 = .ok (.aload_n 0, 1) := by decide +kernel
theorem d_M_agreedOn_239 : decode prog_7_method_24_code 239 = .ok (.getfield 62, 3) := by decide +kernel
theorem d_M_agreedOn_242 : decode prog_7_method_24_code 242 = .ok (.iload 5, 2) := by decide +kernel
theorem d_M_agreedOn_244 : decode prog_7_method_24_code 244 = .ok (.iaload, 1) := by decide +kernel
theorem d_M_agreedOn_245 : decode prog_7_method_24_code 245 = .ok (.aload_n 0, 1) := by decide +kernel
theorem d_M_agreedOn_246 : decode prog_7_method_24_code 246 = .ok (.getfield 41, 3) := by decide +kernel
theorem d_M_agreedOn_249 : decode prog_7_method_24_code 249 = .ok (.iload_n 1, 1) := by decide +kernel
theorem d_M_agreedOn_250 : decode prog_7_method_24_code 250 = .ok (.iaload, 1) := by decide +kernel
theorem d_M_agreedOn_251 : decode prog_7_method_24_code 251 = .ok (.ifCond .ne 20, 3) := by decide +kernel
theorem d_M_agreedOn_254 : decode prog_7_method_24_code 254 = .ok (.aload_n 0, 1) := by decide +kernel
theorem d_M_agreedOn_255 : decode prog_7_method_24_code 255 = .ok (.getfield 74, 3) := by decide +kernel
theorem d_M_agreedOn_258 : decode prog_7_method_24_code 258 = .ok (.aload_n 0, 1) := by decide +kernel
theorem d_M_agreedOn_259 : decode prog_7_method_24_code 259 = .ok (.getfield 62, 3) := by decide +kernel
theorem d_M_agreedOn_262 : decode prog_7_method_24_code 262 = .ok (.iload 5, 2) := by decide +kernel
theorem d_M_agreedOn_264 : decode prog_7_method_24_code 264 = .ok (.iaload, 1) := by decide +kernel
theorem d_M_agreedOn_265 : decode prog_7_method_24_code 265 = .ok (.iaload, 1) := by decide +kernel
theorem d_M_agreedOn_266 : decode prog_7_method_24_code 266 = .ok (.iconst 1, 1) := by decide +kernel
theorem d_M_agreedOn_267 : decode prog_7_method_24_code 267 = .ok (.iadd, 1) := by decide +kernel
theorem d_M_agreedOn_268 : decode prog_7_method_24_code 268 = .ok (.goto 4, 3) := by decide +kernel
theorem d_M_agreedOn_271 : decode prog_7_method_24_code 271 = .ok (.iconst 1, 1) := by decide +kernel
theorem d_M_agreedOn_272 : decode prog_7_method_24_code 272 = .ok (.iastore, 1) := by decide +kernel
theorem d_M_agreedOn_273 : decode prog_7_method_24_code 273 = .ok (.iinc 4 1, 3) := by decide +kernel
theorem d_M_agreedOn_276 : decode prog_7_method_24_code 276 = .ok (.goto (-118), 3) := by decide +kernel
theorem d_M_agreedOn_279 : decode prog_7_method_24_code 279 = .ok (.aload_n 0, 1) := by decide +kernel
theorem d_M_agreedOn_280 : decode prog_7_method_24_code 280 = .ok (.invokevirtual 131, 3) := by decide +kernel
theorem d_M_agreedOn_283 : decode prog_7_method_24_code 283 = .ok (.ireturn, 1) := by decide +kernel
theorem d_M_agreed_0 : decode prog_7_method_25_code 0 = .ok (.aload_n 0, 1) := by decide +kernel
theorem d_M_agreed_1 : decode prog_7_method_25_code 1 = .ok (.aload_n 0, 1) := by decide +kernel
theorem d_M_agreed_2 : decode prog_7_method_25_code 2 = .ok (.iload_n 1, 1) := by decide +kernel
theorem d_M_agreed_3 : decode prog_7_method_25_code 3 = .ok (.invokevirtual 103, 3) := by decide +kernel
theorem d_M_agreed_6 : decode prog_7_method_25_code 6 = .ok (.iload_n 2, 1) := by decide +kernel
theorem d_M_agreed_7 : decode prog_7_method_25_code 7 = .ok (.invokestatic 99, 3) := by decide +kernel
theorem d_M_agreed_10 : decode prog_7_method_25_code 10 = .ok (.iconst 1, 1) := by decide +kernel
theorem d_M_agreed_11 : decode prog_7_method_25_code 11 = .ok (.invokevirtual 95, 3) := by decide +kernel
theorem d_M_agreed_14 : decode prog_7_method_25_code 14 = .ok (.ifCond .eq 12, 3) := by decide +kernel
theorem d_M_agreed_17 : decode prog_7_method_25_code 17 = .ok (.aload_n 0, 1) := by decide +kernel
theorem d_M_agreed_18 : decode prog_7_method_25_code 18 = .ok (.iload_n 1, 1) := by decide +kernel
theorem d_M_agreed_19 : decode prog_7_method_25_code 19 = .ok (.iload_n 2, 1) := by decide +kernel
theorem d_M_agreed_20 : decode prog_7_method_25_code 20 = .ok (.invokevirtual 135, 3) := by decide +kernel
theorem d_M_agreed_23 : decode prog_7_method_25_code 23 = .ok (.goto 4, 3) := by decide +kernel
theorem d_M_agreed_26 : decode prog_7_method_25_code 26 = .ok (.iconst 0, 1) := by decide +kernel
theorem d_M_agreed_27 : decode prog_7_method_25_code 27 = .ok (.ireturn, 1) := by decide +kernel
theorem d_M_dissent_0 : decode prog_7_method_26_code 0 = .ok (.aload_n 0, 1) := by decide +kernel
theorem d_M_dissent_1 : decode prog_7_method_26_code 1 = .ok (.aload_n 0, 1) := by decide +kernel
theorem d_M_dissent_2 : decode prog_7_method_26_code 2 = .ok (.iload_n 1, 1) := by decide +kernel
theorem d_M_dissent_3 : decode prog_7_method_26_code 3 = .ok (.invokevirtual 103, 3) := by decide +kernel
theorem d_M_dissent_6 : decode prog_7_method_26_code 6 = .ok (.ifCond .eq 11, 3) := by decide +kernel
theorem d_M_dissent_9 : decode prog_7_method_26_code 9 = .ok (.iload_n 3, 1) := by decide +kernel
theorem d_M_dissent_10 : decode prog_7_method_26_code 10 = .ok (.ifCond .lt 7, 3) := by decide +kernel
theorem d_M_dissent_13 : decode prog_7_method_26_code 13 = .ok (.iconst 1, 1) := by decide +kernel
theorem d_M_dissent_14 : decode prog_7_method_26_code 14 = .ok (.goto 4, 3) := by decide +kernel
theorem d_M_dissent_17 : decode prog_7_method_26_code 17 = .ok (.iconst 0, 1) := by decide +kernel
theorem d_M_dissent_18 : decode prog_7_method_26_code 18 = .ok (.iload_n 2, 1) := by decide +kernel
theorem d_M_dissent_19 : decode prog_7_method_26_code 19 = .ok (.invokestatic 99, 3) := by decide +kernel
theorem d_M_dissent_22 : decode prog_7_method_26_code 22 = .ok (.iconst 1, 1) := by decide +kernel
theorem d_M_dissent_23 : decode prog_7_method_26_code 23 = .ok (.invokevirtual 95, 3) := by decide +kernel
theorem d_M_dissent_26 : decode prog_7_method_26_code 26 = .ok (.ifCond .ne 5, 3) := by decide +kernel
theorem d_M_dissent_29 : decode prog_7_method_26_code 29 = .ok (.iconst 0, 1) := by decide +kernel
theorem d_M_dissent_30 : decode prog_7_method_26_code 30 = .ok (.ireturn, 1) := by decide +kernel
theorem d_M_dissent_31 : decode prog_7_method_26_code 31 = .ok (.aload_n 0, 1) := by decide +kernel
theorem d_M_dissent_32 : decode prog_7_method_26_code 32 = .ok (.iload_n 1, 1) := by decide +kernel
theorem d_M_dissent_33 : decode prog_7_method_26_code 33 = .ok (.iload_n 2, 1) := by decide +kernel
theorem d_M_dissent_34 : decode prog_7_method_26_code 34 = .ok (.invokevirtual 135, 3) := by decide +kernel
theorem d_M_dissent_37 : decode prog_7_method_26_code 37 = .ok (.istore 4, 2) := by decide +kernel
theorem d_M_dissent_39 : decode prog_7_method_26_code 39 = .ok (.iconst 0, 1) := by decide +kernel
theorem d_M_dissent_40 : decode prog_7_method_26_code 40 = .ok (.istore 5, 2) := by decide +kernel
theorem d_M_dissent_42 : decode prog_7_method_26_code 42 = .ok (.iconst 0, 1) := by decide +kernel
theorem d_M_dissent_43 : decode prog_7_method_26_code 43 = .ok (.istore 6, 2) := by decide +kernel
theorem d_M_dissent_45 : decode prog_7_method_26_code 45 = .ok (.iload 6, 2) := by decide +kernel
theorem d_M_dissent_47 : decode prog_7_method_26_code 47 = .ok (.bipush 32, 2) := by decide +kernel
theorem d_M_dissent_49 : decode prog_7_method_26_code 49 = .ok (.if_icmp .ge 49, 3) := by decide +kernel
theorem d_M_dissent_52 : decode prog_7_method_26_code 52 = .ok (.aload_n 0, 1) := by decide +kernel
theorem d_M_dissent_53 : decode prog_7_method_26_code 53 = .ok (.getfield 71, 3) := by decide +kernel
theorem d_M_dissent_56 : decode prog_7_method_26_code 56 = .ok (.iload 6, 2) := by decide +kernel
theorem d_M_dissent_58 : decode prog_7_method_26_code 58 = .ok (.iaload, 1) := by decide +kernel
theorem d_M_dissent_59 : decode prog_7_method_26_code 59 = .ok (.iconst (-1), 1) := by decide +kernel
theorem d_M_dissent_60 : decode prog_7_method_26_code 60 = .ok (.if_icmp .eq 32, 3) := by decide +kernel
theorem d_M_dissent_63 : decode prog_7_method_26_code 63 = .ok (.aload_n 0, 1) := by decide +kernel
theorem d_M_dissent_64 : decode prog_7_method_26_code 64 = .ok (.getfield 62, 3) := by decide +kernel
theorem d_M_dissent_67 : decode prog_7_method_26_code 67 = .ok (.aload_n 0, 1) := by decide +kernel
theorem d_M_dissent_68 : decode prog_7_method_26_code 68 = .ok (.getfield 71, 3) := by decide +kernel
theorem d_M_dissent_71 : decode prog_7_method_26_code 71 = .ok (.iload 6, 2) := by decide +kernel
theorem d_M_dissent_73 : decode prog_7_method_26_code 73 = .ok (.iaload, 1) := by decide +kernel
theorem d_M_dissent_74 : decode prog_7_method_26_code 74 = .ok (.iaload, 1) := by decide +kernel
theorem d_M_dissent_75 : decode prog_7_method_26_code 75 = .ok (.iload 4, 2) := by decide +kernel
theorem d_M_dissent_77 : decode prog_7_method_26_code 77 = .ok (.if_icmp .eq 15, 3) := by decide +kernel
theorem d_M_dissent_80 : decode prog_7_method_26_code 80 = .ok (.iload 5, 2) := by decide +kernel
theorem d_M_dissent_82 : decode prog_7_method_26_code 82 = .ok (.iload_n 3, 1) := by decide +kernel
theorem d_M_dissent_83 : decode prog_7_method_26_code 83 = .ok (.if_icmp .ne 6, 3) := by decide +kernel
theorem d_M_dissent_86 : decode prog_7_method_26_code 86 = .ok (.iload 6, 2) := by decide +kernel
theorem d_M_dissent_88 : decode prog_7_method_26_code 88 = .ok (.ireturn, 1) := by decide +kernel
theorem d_M_dissent_89 : decode prog_7_method_26_code 89 = .ok (.iinc 5 1, 3) := by decide +kernel
theorem d_M_dissent_92 : decode prog_7_method_26_code 92 = .ok (.iinc 6 1, 3) := by decide +kernel
theorem d_M_dissent_95 : decode prog_7_method_26_code 95 = .ok (.goto (-50), 3) := by decide +kernel
theorem d_M_dissent_98 : decode prog_7_method_26_code 98 = .ok (.iconst (-1), 1) := by decide +kernel
theorem d_M_dissent_99 : decode prog_7_method_26_code 99 = .ok (.ireturn, 1) := by decide +kernel
theorem d_M_held_0 : decode prog_7_method_27_code 0 = .ok (.aload_n 0, 1) := by decide +kernel
theorem d_M_held_1 : decode prog_7_method_27_code 1 = .ok (.aload_n 0, 1) := by decide +kernel
theorem d_M_held_2 : decode prog_7_method_27_code 2 = .ok (.iload_n 1, 1) := by decide +kernel
theorem d_M_held_3 : decode prog_7_method_27_code 3 = .ok (.invokevirtual 103, 3) := by decide +kernel
theorem d_M_held_6 : decode prog_7_method_27_code 6 = .ok (.iload_n 2, 1) := by decide +kernel
theorem d_M_held_7 : decode prog_7_method_27_code 7 = .ok (.invokestatic 99, 3) := by decide +kernel
theorem d_M_held_10 : decode prog_7_method_27_code 10 = .ok (.iconst 1, 1) := by decide +kernel
theorem d_M_held_11 : decode prog_7_method_27_code 11 = .ok (.invokevirtual 95, 3) := by decide +kernel
theorem d_M_held_14 : decode prog_7_method_27_code 14 = .ok (.ifCond .ne 5, 3) := by decide +kernel
theorem d_M_held_17 : decode prog_7_method_27_code 17 = .ok (.iconst 0, 1) := by decide +kernel
theorem d_M_held_18 : decode prog_7_method_27_code 18 = .ok (.ireturn, 1) := by decide +kernel
theorem d_M_held_19 : decode prog_7_method_27_code 19 = .ok (.aload_n 0, 1) := by decide +kernel
theorem d_M_held_20 : decode prog_7_method_27_code 20 = .ok (.iload_n 2, 1) := by decide +kernel
theorem d_M_held_21 : decode prog_7_method_27_code 21 = .ok (.iconst (-1), 1) := by decide +kernel
theorem d_M_held_22 : decode prog_7_method_27_code 22 = .ok (.invokevirtual 123, 3) := by decide +kernel
theorem d_M_held_25 : decode prog_7_method_27_code 25 = .ok (.aload_n 0, 1) := by decide +kernel
theorem d_M_held_26 : decode prog_7_method_27_code 26 = .ok (.getfield 50, 3) := by decide +kernel
theorem d_M_held_29 : decode prog_7_method_27_code 29 = .ok (.iload_n 1, 1) := by decide +kernel
theorem d_M_held_30 : decode prog_7_method_27_code 30 = .ok (.baload, 1) := by decide +kernel
theorem d_M_held_31 : decode prog_7_method_27_code 31 = .ok (.ireturn, 1) := by decide +kernel
theorem d_M_opened_0 : decode prog_7_method_28_code 0 = .ok (.aload_n 0, 1) := by decide +kernel
theorem d_M_opened_1 : decode prog_7_method_28_code 1 = .ok (.aload_n 0, 1) := by decide +kernel
theorem d_M_opened_2 : decode prog_7_method_28_code 2 = .ok (.iload_n 1, 1) := by decide +kernel
theorem d_M_opened_3 : decode prog_7_method_28_code 3 = .ok (.invokevirtual 106, 3) := by decide +kernel
theorem d_M_opened_6 : decode prog_7_method_28_code 6 = .ok (.ifCond .eq 11, 3) := by decide +kernel
theorem d_M_opened_9 : decode prog_7_method_28_code 9 = .ok (.iload_n 3, 1) := by decide +kernel
theorem d_M_opened_10 : decode prog_7_method_28_code 10 = .ok (.ifCond .lt 7, 3) := by decide +kernel
theorem d_M_opened_13 : decode prog_7_method_28_code 13 = .ok (.iconst 1, 1) := by decide +kernel
theorem d_M_opened_14 : decode prog_7_method_28_code 14 = .ok (.goto 4, 3) := by decide +kernel
theorem d_M_opened_17 : decode prog_7_method_28_code 17 = .ok (.iconst 0, 1) := by decide +kernel
theorem d_M_opened_18 : decode prog_7_method_28_code 18 = .ok (.iload_n 2, 1) := by decide +kernel
theorem d_M_opened_19 : decode prog_7_method_28_code 19 = .ok (.invokestatic 99, 3) := by decide +kernel
theorem d_M_opened_22 : decode prog_7_method_28_code 22 = .ok (.iconst 1, 1) := by decide +kernel
theorem d_M_opened_23 : decode prog_7_method_28_code 23 = .ok (.invokevirtual 95, 3) := by decide +kernel
theorem d_M_opened_26 : decode prog_7_method_28_code 26 = .ok (.ifCond .ne 5, 3) := by decide +kernel
theorem d_M_opened_29 : decode prog_7_method_28_code 29 = .ok (.iconst 0, 1) := by decide +kernel
theorem d_M_opened_30 : decode prog_7_method_28_code 30 = .ok (.ireturn, 1) := by decide +kernel
theorem d_M_opened_31 : decode prog_7_method_28_code 31 = .ok (.aload_n 0, 1) := by decide +kernel
theorem d_M_opened_32 : decode prog_7_method_28_code 32 = .ok (.iload_n 2, 1) := by decide +kernel
theorem d_M_opened_33 : decode prog_7_method_28_code 33 = .ok (.iconst (-1), 1) := by decide +kernel
theorem d_M_opened_34 : decode prog_7_method_28_code 34 = .ok (.invokevirtual 123, 3) := by decide +kernel
theorem d_M_opened_37 : decode prog_7_method_28_code 37 = .ok (.iconst 0, 1) := by decide +kernel
theorem d_M_opened_38 : decode prog_7_method_28_code 38 = .ok (.istore 4, 2) := by decide +kernel
theorem d_M_opened_40 : decode prog_7_method_28_code 40 = .ok (.iload 4, 2) := by decide +kernel
theorem d_M_opened_42 : decode prog_7_method_28_code 42 = .ok (.bipush 24, 2) := by decide +kernel
theorem d_M_opened_44 : decode prog_7_method_28_code 44 = .ok (.if_icmp .ge 23, 3) := by decide +kernel
theorem d_M_opened_47 : decode prog_7_method_28_code 47 = .ok (.aload_n 0, 1) := by decide +kernel
theorem d_M_opened_48 : decode prog_7_method_28_code 48 = .ok (.getfield 53, 3) := by decide +kernel
theorem d_M_opened_51 : decode prog_7_method_28_code 51 = .ok (.iload 4, 2) := by decide +kernel
theorem d_M_opened_53 : decode prog_7_method_28_code 53 = .ok (.aload_n 0, 1) := by decide +kernel
theorem d_M_opened_54 : decode prog_7_method_28_code 54 = .ok (.getfield 50, 3) := by decide +kernel
theorem d_M_opened_57 : decode prog_7_method_28_code 57 = .ok (.iload 4, 2) := by decide +kernel
theorem d_M_opened_59 : decode prog_7_method_28_code 59 = .ok (.baload, 1) := by decide +kernel
theorem d_M_opened_60 : decode prog_7_method_28_code 60 = .ok (.bastore, 1) := by decide +kernel
theorem d_M_opened_61 : decode prog_7_method_28_code 61 = .ok (.iinc 4 1, 3) := by decide +kernel
theorem d_M_opened_64 : decode prog_7_method_28_code 64 = .ok (.goto (-24), 3) := by decide +kernel
theorem d_M_opened_67 : decode prog_7_method_28_code 67 = .ok (.aload_n 0, 1) := by decide +kernel
theorem d_M_opened_68 : decode prog_7_method_28_code 68 = .ok (.iload_n 2, 1) := by decide +kernel
theorem d_M_opened_69 : decode prog_7_method_28_code 69 = .ok (.iload_n 1, 1) := by decide +kernel
theorem d_M_opened_70 : decode prog_7_method_28_code 70 = .ok (.invokevirtual 123, 3) := by decide +kernel
theorem d_M_opened_73 : decode prog_7_method_28_code 73 = .ok (.iconst 0, 1) := by decide +kernel
theorem d_M_opened_74 : decode prog_7_method_28_code 74 = .ok (.istore 4, 2) := by decide +kernel
theorem d_M_opened_76 : decode prog_7_method_28_code 76 = .ok (.iconst 0, 1) := by decide +kernel
theorem d_M_opened_77 : decode prog_7_method_28_code 77 = .ok (.istore 5, 2) := by decide +kernel
theorem d_M_opened_79 : decode prog_7_method_28_code 79 = .ok (.iload 5, 2) := by decide +kernel
theorem d_M_opened_81 : decode prog_7_method_28_code 81 = .ok (.aload_n 0, 1) := by decide +kernel
theorem d_M_opened_82 : decode prog_7_method_28_code 82 = .ok (.getfield 85, 3) := by decide +kernel
theorem d_M_opened_85 : decode prog_7_method_28_code 85 = .ok (.if_icmp .ge 41, 3) := by decide +kernel
theorem d_M_opened_88 : decode prog_7_method_28_code 88 = .ok (.aload_n 0, 1) := by decide +kernel
theorem d_M_opened_89 : decode prog_7_method_28_code 89 = .ok (.getfield 53, 3) := by decide +kernel
theorem d_M_opened_92 : decode prog_7_method_28_code 92 = .ok (.iload 5, 2) := by decide +kernel
theorem d_M_opened_94 : decode prog_7_method_28_code 94 = .ok (.baload, 1) := by decide +kernel
theorem d_M_opened_95 : decode prog_7_method_28_code 95 = .ok (.ifCond .eq 25, 3) := by decide +kernel
theorem d_M_opened_98 : decode prog_7_method_28_code 98 = .ok (.aload_n 0, 1) := by decide +kernel
theorem d_M_opened_99 : decode prog_7_method_28_code 99 = .ok (.getfield 50, 3) := by decide +kernel
theorem d_M_opened_102 : decode prog_7_method_28_code 102 = .ok (.iload 5, 2) := by decide +kernel
theorem d_M_opened_104 : decode prog_7_method_28_code 104 = .ok (.baload, 1) := by decide +kernel
theorem d_M_opened_105 : decode prog_7_method_28_code 105 = .ok (.ifCond .ne 15, 3) := by decide +kernel
theorem d_M_opened_108 : decode prog_7_method_28_code 108 = .ok (.iload 4, 2) := by decide +kernel
theorem d_M_opened_110 : decode prog_7_method_28_code 110 = .ok (.iload_n 3, 1) := by decide +kernel
theorem d_M_opened_111 : decode prog_7_method_28_code 111 = .ok (.if_icmp .ne 6, 3) := by decide +kernel
theorem d_M_opened_114 : decode prog_7_method_28_code 114 = .ok (.iload 5, 2) := by decide +kernel
theorem d_M_opened_116 : decode prog_7_method_28_code 116 = .ok (.ireturn, 1) := by decide +kernel
theorem d_M_opened_117 : decode prog_7_method_28_code 117 = .ok (.iinc 4 1, 3) := by decide +kernel
theorem d_M_opened_120 : decode prog_7_method_28_code 120 = .ok (.iinc 5 1, 3) := by decide +kernel
theorem d_M_opened_123 : decode prog_7_method_28_code 123 = .ok (.goto (-44), 3) := by decide +kernel
theorem d_M_opened_126 : decode prog_7_method_28_code 126 = .ok (.iconst (-1), 1) := by decide +kernel
theorem d_M_opened_127 : decode prog_7_method_28_code 127 = .ok (.ireturn, 1) := by decide +kernel
theorem d_M_quote_0 : decode prog_7_method_29_code 0 = .ok (.aload_n 0, 1) := by decide +kernel
theorem d_M_quote_1 : decode prog_7_method_29_code 1 = .ok (.aload_n 0, 1) := by decide +kernel
theorem d_M_quote_2 : decode prog_7_method_29_code 2 = .ok (.iload_n 1, 1) := by decide +kernel
theorem d_M_quote_3 : decode prog_7_method_29_code 3 = .ok (.invokevirtual 106, 3) := by decide +kernel
theorem d_M_quote_6 : decode prog_7_method_29_code 6 = .ok (.ifCond .eq 21, 3) := by decide +kernel
theorem d_M_quote_9 : decode prog_7_method_29_code 9 = .ok (.iload_n 2, 1) := by decide +kernel
theorem d_M_quote_10 : decode prog_7_method_29_code 10 = .ok (.ifCond .lt 17, 3) := by decide +kernel
theorem d_M_quote_13 : decode prog_7_method_29_code 13 = .ok (.iload_n 2, 1) := by decide +kernel
theorem d_M_quote_14 : decode prog_7_method_29_code 14 = .ok (.aload_n 0, 1) := by decide +kernel
theorem d_M_quote_15 : decode prog_7_method_29_code 15 = .ok (.getfield 22, 3) := by decide +kernel
theorem d_M_quote_18 : decode prog_7_method_29_code 18 = .ok (.iload_n 1, 1) := by decide +kernel
theorem d_M_quote_19 : decode prog_7_method_29_code 19 = .ok (.iaload, 1) := by decide +kernel
theorem d_M_quote_20 : decode prog_7_method_29_code 20 = .ok (.if_icmp .gt 7, 3) := by decide +kernel
theorem d_M_quote_23 : decode prog_7_method_29_code 23 = .ok (.iconst 1, 1) := by decide +kernel
theorem d_M_quote_24 : decode prog_7_method_29_code 24 = .ok (.goto 4, 3) := by decide +kernel
theorem d_M_quote_27 : decode prog_7_method_29_code 27 = .ok (.iconst 0, 1) := by decide +kernel
theorem d_M_quote_28 : decode prog_7_method_29_code 28 = .ok (.iconst 1, 1) := by decide +kernel
theorem d_M_quote_29 : decode prog_7_method_29_code 29 = .ok (.iconst 1, 1) := by decide +kernel
theorem d_M_quote_30 : decode prog_7_method_29_code 30 = .ok (.invokevirtual 95, 3) := by decide +kernel
theorem d_M_quote_33 : decode prog_7_method_29_code 33 = .ok (.ifCond .ne 5, 3) := by decide +kernel
theorem d_M_quote_36 : decode prog_7_method_29_code 36 = .ok (.iconst 0, 1) := by decide +kernel
theorem d_M_quote_37 : decode prog_7_method_29_code 37 = .ok (.ireturn, 1) := by decide +kernel
theorem d_M_quote_38 : decode prog_7_method_29_code 38 = .ok (.iconst 0, 1) := by decide +kernel
theorem d_M_quote_39 : decode prog_7_method_29_code 39 = .ok (.istore_n 3, 1) := by decide +kernel
theorem d_M_quote_40 : decode prog_7_method_29_code 40 = .ok (.iload_n 3, 1) := by decide +kernel
theorem d_M_quote_41 : decode prog_7_method_29_code 41 = .ok (.aload_n 0, 1) := by decide +kernel
theorem d_M_quote_42 : decode prog_7_method_29_code 42 = .ok (.getfield 92, 3) := by decide +kernel
theorem d_M_quote_45 : decode prog_7_method_29_code 45 = .ok (.if_icmp .ge 47, 3) := by decide +kernel
theorem d_M_quote_48 : decode prog_7_method_29_code 48 = .ok (.iload_n 2, 1) := by decide +kernel
theorem d_M_quote_49 : decode prog_7_method_29_code 49 = .ok (.iload_n 3, 1) := by decide +kernel
theorem d_M_quote_50 : decode prog_7_method_29_code 50 = .ok (.iadd, 1) := by decide +kernel
theorem d_M_quote_51 : decode prog_7_method_29_code 51 = .ok (.aload_n 0, 1) := by decide +kernel
theorem d_M_quote_52 : decode prog_7_method_29_code 52 = .ok (.getfield 22, 3) := by decide +kernel
theorem d_M_quote_55 : decode prog_7_method_29_code 55 = .ok (.iload_n 1, 1) := by decide +kernel
theorem d_M_quote_56 : decode prog_7_method_29_code 56 = .ok (.iaload, 1) := by decide +kernel
theorem d_M_quote_57 : decode prog_7_method_29_code 57 = .ok (.if_icmp .ge 25, 3) := by decide +kernel
theorem d_M_quote_60 : decode prog_7_method_29_code 60 = .ok (.aload_n 0, 1) := by decide +kernel
theorem d_M_quote_61 : decode prog_7_method_29_code 61 = .ok (.getfield 25, 3) := by decide +kernel
theorem d_M_quote_64 : decode prog_7_method_29_code 64 = .ok (.bipush 60, 2) := by decide +kernel
theorem d_M_quote_66 : decode prog_7_method_29_code 66 = .ok (.iload_n 1, 1) := by decide +kernel
theorem d_M_quote_67 : decode prog_7_method_29_code 67 = .ok (.imul, 1) := by decide +kernel
theorem d_M_quote_68 : decode prog_7_method_29_code 68 = .ok (.iload_n 2, 1) := by decide +kernel
theorem d_M_quote_69 : decode prog_7_method_29_code 69 = .ok (.iadd, 1) := by decide +kernel
theorem d_M_quote_70 : decode prog_7_method_29_code 70 = .ok (.iload_n 3, 1) := by decide +kernel
theorem d_M_quote_71 : decode prog_7_method_29_code 71 = .ok (.iadd, 1) := by decide +kernel
theorem d_M_quote_72 : decode prog_7_method_29_code 72 = .ok (.iaload, 1) := by decide +kernel
theorem d_M_quote_73 : decode prog_7_method_29_code 73 = .ok (.aload_n 0, 1) := by decide +kernel
theorem d_M_quote_74 : decode prog_7_method_29_code 74 = .ok (.getfield 7, 3) := by decide +kernel
theorem d_M_quote_77 : decode prog_7_method_29_code 77 = .ok (.iload_n 3, 1) := by decide +kernel
theorem d_M_quote_78 : decode prog_7_method_29_code 78 = .ok (.iaload, 1) := by decide +kernel
theorem d_M_quote_79 : decode prog_7_method_29_code 79 = .ok (.if_icmp .eq 7, 3) := by decide +kernel
theorem d_M_quote_82 : decode prog_7_method_29_code 82 = .ok (.iload_n 3, 1) := by decide +kernel
theorem d_M_quote_83 : decode prog_7_method_29_code 83 = .ok (.iconst 1, 1) := by decide +kernel
theorem d_M_quote_84 : decode prog_7_method_29_code 84 = .ok (.iadd, 1) := by decide +kernel
theorem d_M_quote_85 : decode prog_7_method_29_code 85 = .ok (.ireturn, 1) := by decide +kernel
theorem d_M_quote_86 : decode prog_7_method_29_code 86 = .ok (.iinc 3 1, 3) := by decide +kernel
theorem d_M_quote_89 : decode prog_7_method_29_code 89 = .ok (.goto (-49), 3) := by decide +kernel
theorem d_M_quote_92 : decode prog_7_method_29_code 92 = .ok (.iconst 0, 1) := by decide +kernel
theorem d_M_quote_93 : decode prog_7_method_29_code 93 = .ok (.ireturn, 1) := by decide +kernel
theorem d_M_form_0 : decode prog_7_method_30_code 0 = .ok (.aload_n 0, 1) := by decide +kernel
theorem d_M_form_1 : decode prog_7_method_30_code 1 = .ok (.iload_n 1, 1) := by decide +kernel
theorem d_M_form_2 : decode prog_7_method_30_code 2 = .ok (.iconst 0, 1) := by decide +kernel
theorem d_M_form_3 : decode prog_7_method_30_code 3 = .ok (.iconst 3, 1) := by decide +kernel
theorem d_M_form_4 : decode prog_7_method_30_code 4 = .ok (.invokestatic 88, 3) := by decide +kernel
theorem d_M_form_7 : decode prog_7_method_30_code 7 = .ok (.iconst 1, 1) := by decide +kernel
theorem d_M_form_8 : decode prog_7_method_30_code 8 = .ok (.iconst 1, 1) := by decide +kernel
theorem d_M_form_9 : decode prog_7_method_30_code 9 = .ok (.invokevirtual 95, 3) := by decide +kernel
theorem d_M_form_12 : decode prog_7_method_30_code 12 = .ok (.ifCond .ne 5, 3) := by decide +kernel
theorem d_M_form_15 : decode prog_7_method_30_code 15 = .ok (.iconst 0, 1) := by decide +kernel
theorem d_M_form_16 : decode prog_7_method_30_code 16 = .ok (.ireturn, 1) := by decide +kernel
theorem d_M_form_17 : decode prog_7_method_30_code 17 = .ok (.iconst 0, 1) := by decide +kernel
theorem d_M_form_18 : decode prog_7_method_30_code 18 = .ok (.istore_n 2, 1) := by decide +kernel
theorem d_M_form_19 : decode prog_7_method_30_code 19 = .ok (.iload_n 2, 1) := by decide +kernel
theorem d_M_form_20 : decode prog_7_method_30_code 20 = .ok (.aload_n 0, 1) := by decide +kernel
theorem d_M_form_21 : decode prog_7_method_30_code 21 = .ok (.getfield 92, 3) := by decide +kernel
theorem d_M_form_24 : decode prog_7_method_30_code 24 = .ok (.if_icmp .ge 26, 3) := by decide +kernel
theorem d_M_form_27 : decode prog_7_method_30_code 27 = .ok (.aload_n 0, 1) := by decide +kernel
theorem d_M_form_28 : decode prog_7_method_30_code 28 = .ok (.getfield 31, 3) := by decide +kernel
theorem d_M_form_31 : decode prog_7_method_30_code 31 = .ok (.bipush 60, 2) := by decide +kernel
theorem d_M_form_33 : decode prog_7_method_30_code 33 = .ok (.iload_n 1, 1) := by decide +kernel
theorem d_M_form_34 : decode prog_7_method_30_code 34 = .ok (.imul, 1) := by decide +kernel
theorem d_M_form_35 : decode prog_7_method_30_code 35 = .ok (.iload_n 2, 1) := by decide +kernel
theorem d_M_form_36 : decode prog_7_method_30_code 36 = .ok (.iadd, 1) := by decide +kernel
theorem d_M_form_37 : decode prog_7_method_30_code 37 = .ok (.aload_n 0, 1) := by decide +kernel
theorem d_M_form_38 : decode prog_7_method_30_code 38 = .ok (.getfield 7, 3) := by decide +kernel
theorem d_M_form_41 : decode prog_7_method_30_code 41 = .ok (.iload_n 2, 1) := by decide +kernel
theorem d_M_form_42 : decode prog_7_method_30_code 42 = .ok (.iaload, 1) := by decide +kernel
theorem d_M_form_43 : decode prog_7_method_30_code 43 = .ok (.iastore, 1) := by decide +kernel
theorem d_M_form_44 : decode prog_7_method_30_code 44 = .ok (.iinc 2 1, 3) := by decide +kernel
theorem d_M_form_47 : decode prog_7_method_30_code 47 = .ok (.goto (-28), 3) := by decide +kernel
theorem d_M_form_50 : decode prog_7_method_30_code 50 = .ok (.aload_n 0, 1) := by decide +kernel
theorem d_M_form_51 : decode prog_7_method_30_code 51 = .ok (.getfield 28, 3) := by decide +kernel
theorem d_M_form_54 : decode prog_7_method_30_code 54 = .ok (.iload_n 1, 1) := by decide +kernel
theorem d_M_form_55 : decode prog_7_method_30_code 55 = .ok (.aload_n 0, 1) := by decide +kernel
theorem d_M_form_56 : decode prog_7_method_30_code 56 = .ok (.getfield 92, 3) := by decide +kernel
theorem d_M_form_59 : decode prog_7_method_30_code 59 = .ok (.iastore, 1) := by decide +kernel
theorem d_M_form_60 : decode prog_7_method_30_code 60 = .ok (.aload_n 0, 1) := by decide +kernel
theorem d_M_form_61 : decode prog_7_method_30_code 61 = .ok (.iconst 0, 1) := by decide +kernel
theorem d_M_form_62 : decode prog_7_method_30_code 62 = .ok (.putfield 92, 3) := by decide +kernel
theorem d_M_form_65 : decode prog_7_method_30_code 65 = .ok (.aload_n 0, 1) := by decide +kernel
theorem d_M_form_66 : decode prog_7_method_30_code 66 = .ok (.getfield 28, 3) := by decide +kernel
theorem d_M_form_69 : decode prog_7_method_30_code 69 = .ok (.iload_n 1, 1) := by decide +kernel
theorem d_M_form_70 : decode prog_7_method_30_code 70 = .ok (.iaload, 1) := by decide +kernel
theorem d_M_form_71 : decode prog_7_method_30_code 71 = .ok (.ireturn, 1) := by decide +kernel
theorem d_M_digits_0 : decode prog_7_method_31_code 0 = .ok (.iconst 1, 1) := by decide +kernel
theorem d_M_digits_1 : decode prog_7_method_31_code 1 = .ok (.istore_n 1, 1) := by decide +kernel
theorem d_M_digits_2 : decode prog_7_method_31_code 2 = .ok (.iload_n 0, 1) := by decide +kernel
theorem d_M_digits_3 : decode prog_7_method_31_code 3 = .ok (.istore_n 2, 1) := by decide +kernel
theorem d_M_digits_4 : decode prog_7_method_31_code 4 = .ok (.iload_n 2, 1) := by decide +kernel
theorem d_M_digits_5 : decode prog_7_method_31_code 5 = .ok (.bipush 9, 2) := by decide +kernel
theorem d_M_digits_7 : decode prog_7_method_31_code 7 = .ok (.if_icmp .le 14, 3) := by decide +kernel
theorem d_M_digits_10 : decode prog_7_method_31_code 10 = .ok (.iinc 1 1, 3) := by decide +kernel
theorem d_M_digits_13 : decode prog_7_method_31_code 13 = .ok (.iload_n 2, 1) := by decide +kernel
theorem d_M_digits_14 : decode prog_7_method_31_code 14 = .ok (.bipush 10, 2) := by decide +kernel
theorem d_M_digits_16 : decode prog_7_method_31_code 16 = .ok (.idiv, 1) := by decide +kernel
theorem d_M_digits_17 : decode prog_7_method_31_code 17 = .ok (.istore_n 2, 1) := by decide +kernel
theorem d_M_digits_18 : decode prog_7_method_31_code 18 = .ok (.goto (-14), 3) := by decide +kernel
theorem d_M_digits_21 : decode prog_7_method_31_code 21 = .ok (.iload_n 1, 1) := by decide +kernel
theorem d_M_digits_22 : decode prog_7_method_31_code 22 = .ok (.ireturn, 1) := by decide +kernel
theorem d_M_digit_0 : decode prog_7_method_32_code 0 = .ok (.iload_n 0, 1) := by decide +kernel
theorem d_M_digit_1 : decode prog_7_method_32_code 1 = .ok (.istore_n 2, 1) := by decide +kernel
theorem d_M_digit_2 : decode prog_7_method_32_code 2 = .ok (.iload_n 0, 1) := by decide +kernel
theorem d_M_digit_3 : decode prog_7_method_32_code 3 = .ok (.invokestatic 138, 3) := by decide +kernel
theorem d_M_digit_6 : decode prog_7_method_32_code 6 = .ok (.iconst 1, 1) := by decide +kernel
theorem d_M_digit_7 : decode prog_7_method_32_code 7 = .ok (.isub, 1) := by decide +kernel
theorem d_M_digit_8 : decode prog_7_method_32_code 8 = .ok (.istore_n 3, 1) := by decide +kernel
theorem d_M_digit_9 : decode prog_7_method_32_code 9 = .ok (.iload_n 3, 1) := by decide +kernel
theorem d_M_digit_10 : decode prog_7_method_32_code 10 = .ok (.iload_n 1, 1) := by decide +kernel
theorem d_M_digit_11 : decode prog_7_method_32_code 11 = .ok (.if_icmp .le 14, 3) := by decide +kernel
theorem d_M_digit_14 : decode prog_7_method_32_code 14 = .ok (.iload_n 2, 1) := by decide +kernel
theorem d_M_digit_15 : decode prog_7_method_32_code 15 = .ok (.bipush 10, 2) := by decide +kernel
theorem d_M_digit_17 : decode prog_7_method_32_code 17 = .ok (.idiv, 1) := by decide +kernel
theorem d_M_digit_18 : decode prog_7_method_32_code 18 = .ok (.istore_n 2, 1) := by decide +kernel
theorem d_M_digit_19 : decode prog_7_method_32_code 19 = .ok (.iinc 3 (-1), 3) := by decide +kernel
theorem d_M_digit_22 : decode prog_7_method_32_code 22 = .ok (.goto (-13), 3) := by decide +kernel
theorem d_M_digit_25 : decode prog_7_method_32_code 25 = .ok (.bipush 48, 2) := by decide +kernel
theorem d_M_digit_27 : decode prog_7_method_32_code 27 = .ok (.iload_n 2, 1) := by decide +kernel
theorem d_M_digit_28 : decode prog_7_method_32_code 28 = .ok (.bipush 10, 2) := by decide +kernel
theorem d_M_digit_30 : decode prog_7_method_32_code 30 = .ok (.irem, 1) := by decide +kernel
theorem d_M_digit_31 : decode prog_7_method_32_code 31 = .ok (.iadd, 1) := by decide +kernel
theorem d_M_digit_32 : decode prog_7_method_32_code 32 = .ok (.ireturn, 1) := by decide +kernel
theorem d_M_cite_0 : decode prog_7_method_33_code 0 = .ok (.aload_n 0, 1) := by decide +kernel
theorem d_M_cite_1 : decode prog_7_method_33_code 1 = .ok (.iload_n 1, 1) := by decide +kernel
theorem d_M_cite_2 : decode prog_7_method_33_code 2 = .ok (.invokevirtual 106, 3) := by decide +kernel
theorem d_M_cite_5 : decode prog_7_method_33_code 5 = .ok (.ifCond .eq 21, 3) := by decide +kernel
theorem d_M_cite_8 : decode prog_7_method_33_code 8 = .ok (.iload_n 2, 1) := by decide +kernel
theorem d_M_cite_9 : decode prog_7_method_33_code 9 = .ok (.iconst 0, 1) := by decide +kernel
theorem d_M_cite_10 : decode prog_7_method_33_code 10 = .ok (.iconst 3, 1) := by decide +kernel
theorem d_M_cite_11 : decode prog_7_method_33_code 11 = .ok (.invokestatic 88, 3) := by decide +kernel
theorem d_M_cite_14 : decode prog_7_method_33_code 14 = .ok (.ifCond .eq 12, 3) := by decide +kernel
theorem d_M_cite_17 : decode prog_7_method_33_code 17 = .ok (.iload_n 3, 1) := by decide +kernel
theorem d_M_cite_18 : decode prog_7_method_33_code 18 = .ok (.iconst (-1), 1) := by decide +kernel
theorem d_M_cite_19 : decode prog_7_method_33_code 19 = .ok (.if_icmp .lt 7, 3) := by decide +kernel
theorem d_M_cite_22 : decode prog_7_method_33_code 22 = .ok (.iconst 1, 1) := by decide +kernel
theorem d_M_cite_23 : decode prog_7_method_33_code 23 = .ok (.goto 4, 3) := by decide +kernel
theorem d_M_cite_26 : decode prog_7_method_33_code 26 = .ok (.iconst 0, 1) := by decide +kernel
theorem d_M_cite_27 : decode prog_7_method_33_code 27 = .ok (.istore 4, 2) := by decide +kernel
theorem d_M_cite_29 : decode prog_7_method_33_code 29 = .ok (.iconst 0, 1) := by decide +kernel
theorem d_M_cite_30 : decode prog_7_method_33_code 30 = .ok (.istore 5, 2) := by decide +kernel
theorem d_M_cite_32 : decode prog_7_method_33_code 32 = .ok (.iconst 0, 1) := by decide +kernel
theorem d_M_cite_33 : decode prog_7_method_33_code 33 = .ok (.istore 6, 2) := by decide +kernel
theorem d_M_cite_35 : decode prog_7_method_33_code 35 = .ok (.iconst 0, 1) := by decide +kernel
theorem d_M_cite_36 : decode prog_7_method_33_code 36 = .ok (.istore 7, 2) := by decide +kernel
theorem d_M_cite_38 : decode prog_7_method_33_code 38 = .ok (.iload 4, 2) := by decide +kernel
theorem d_M_cite_40 : decode prog_7_method_33_code 40 = .ok (.ifCond .eq 160, 3) := by decide +kernel
theorem d_M_cite_43 : decode prog_7_method_33_code 43 = .ok (.iload 7, 2) := by decide +kernel
theorem d_M_cite_45 : decode prog_7_method_33_code 45 = .ok (.aload_n 0, 1) := by decide +kernel
theorem d_M_cite_46 : decode prog_7_method_33_code 46 = .ok (.getfield 28, 3) := by decide +kernel
theorem d_M_cite_49 : decode prog_7_method_33_code 49 = .ok (.iload_n 2, 1) := by decide +kernel
theorem d_M_cite_50 : decode prog_7_method_33_code 50 = .ok (.iaload, 1) := by decide +kernel
theorem d_M_cite_51 : decode prog_7_method_33_code 51 = .ok (.if_icmp .ge 149, 3) := by decide +kernel
theorem d_M_cite_54 : decode prog_7_method_33_code 54 = .ok (.aload_n 0, 1) := by decide +kernel
theorem d_M_cite_55 : decode prog_7_method_33_code 55 = .ok (.getfield 31, 3) := by decide +kernel
theorem d_M_cite_58 : decode prog_7_method_33_code 58 = .ok (.bipush 60, 2) := by decide +kernel
theorem d_M_cite_60 : decode prog_7_method_33_code 60 = .ok (.iload_n 2, 1) := by decide +kernel
theorem d_M_cite_61 : decode prog_7_method_33_code 61 = .ok (.imul, 1) := by decide +kernel
theorem d_M_cite_62 : decode prog_7_method_33_code 62 = .ok (.iload 7, 2) := by decide +kernel
theorem d_M_cite_64 : decode prog_7_method_33_code 64 = .ok (.iadd, 1) := by decide +kernel
theorem d_M_cite_65 : decode prog_7_method_33_code 65 = .ok (.iaload, 1) := by decide +kernel
theorem d_M_cite_66 : decode prog_7_method_33_code 66 = .ok (.istore 8, 2) := by decide +kernel
theorem d_M_cite_68 : decode prog_7_method_33_code 68 = .ok (.iload 8, 2) := by decide +kernel
theorem d_M_cite_70 : decode prog_7_method_33_code 70 = .ok (.bipush 35, 2) := by decide +kernel
theorem d_M_cite_72 : decode prog_7_method_33_code 72 = .ok (.if_icmp .ne 7, 3) := by decide +kernel
theorem d_M_cite_75 : decode prog_7_method_33_code 75 = .ok (.iload_n 1, 1) := by decide +kernel
theorem d_M_cite_76 : decode prog_7_method_33_code 76 = .ok (.goto 20, 3) := by decide +kernel
theorem d_M_cite_79 : decode prog_7_method_33_code 79 = .ok (.iload 8, 2) := by decide +kernel
theorem d_M_cite_81 : decode prog_7_method_33_code 81 = .ok (.bipush 64, 2) := by decide +kernel
theorem d_M_cite_83 : decode prog_7_method_33_code 83 = .ok (.if_icmp .ne 12, 3) := by decide +kernel
theorem d_M_cite_86 : decode prog_7_method_33_code 86 = .ok (.aload_n 0, 1) := by decide +kernel
theorem d_M_cite_87 : decode prog_7_method_33_code 87 = .ok (.getfield 16, 3) := by decide +kernel
theorem d_M_cite_90 : decode prog_7_method_33_code 90 = .ok (.iload_n 1, 1) := by decide +kernel
theorem d_M_cite_91 : decode prog_7_method_33_code 91 = .ok (.iaload, 1) := by decide +kernel
theorem d_M_cite_92 : decode prog_7_method_33_code 92 = .ok (.goto 4, 3) := by decide +kernel
theorem d_M_cite_95 : decode prog_7_method_33_code 95 = .ok (.iconst 0, 1) := by decide +kernel
theorem d_M_cite_96 : decode prog_7_method_33_code 96 = .ok (.istore 9, 2) := by decide +kernel
theorem d_M_cite_98 : decode prog_7_method_33_code 98 = .ok (.iload 8, 2) := by decide +kernel
theorem d_M_cite_100 : decode prog_7_method_33_code 100 = .ok (.bipush 35, 2) := by decide +kernel
theorem d_M_cite_102 : decode prog_7_method_33_code 102 = .ok (.if_icmp .eq 10, 3) := by decide +kernel
theorem d_M_cite_105 : decode prog_7_method_33_code 105 = .ok (.iload 8, 2) := by decide +kernel
theorem d_M_cite_107 : decode prog_7_method_33_code 107 = .ok (.bipush 64, 2) := by decide +kernel
theorem d_M_cite_109 : decode prog_7_method_33_code 109 = .ok (.if_icmp .ne 11, 3) := by decide +kernel
theorem d_M_cite_112 : decode prog_7_method_33_code 112 = .ok (.iload 9, 2) := by decide +kernel
theorem d_M_cite_114 : decode prog_7_method_33_code 114 = .ok (.invokestatic 138, 3) := by decide +kernel
theorem d_M_cite_117 : decode prog_7_method_33_code 117 = .ok (.goto 4, 3) := by decide +kernel
theorem d_M_cite_120 : decode prog_7_method_33_code 120 = .ok (.iconst 1, 1) := by decide +kernel
theorem d_M_cite_121 : decode prog_7_method_33_code 121 = .ok (.istore 10, 2) := by decide +kernel
theorem d_M_cite_123 : decode prog_7_method_33_code 123 = .ok (.iload_n 3, 1) := by decide +kernel
theorem d_M_cite_124 : decode prog_7_method_33_code 124 = .ok (.iload 5, 2) := by decide +kernel
theorem d_M_cite_126 : decode prog_7_method_33_code 126 = .ok (.if_icmp .lt 61, 3) := by decide +kernel
theorem d_M_cite_129 : decode prog_7_method_33_code 129 = .ok (.iload_n 3, 1) := by decide +kernel
theorem d_M_cite_130 : decode prog_7_method_33_code 130 = .ok (.iload 5, 2) := by decide +kernel
theorem d_M_cite_132 : decode prog_7_method_33_code 132 = .ok (.iload 10, 2) := by decide +kernel
theorem d_M_cite_134 : decode prog_7_method_33_code 134 = .ok (.iadd, 1) := by decide +kernel
theorem d_M_cite_135 : decode prog_7_method_33_code 135 = .ok (.if_icmp .ge 52, 3) := by decide +kernel
theorem d_M_cite_138 : decode prog_7_method_33_code 138 = .ok (.iload 8, 2) := by decide +kernel
theorem d_M_cite_140 : decode prog_7_method_33_code 140 = .ok (.bipush 35, 2) := by decide +kernel
theorem d_M_cite_142 : decode prog_7_method_33_code 142 = .ok (.if_icmp .eq 10, 3) := by decide +kernel
theorem d_M_cite_145 : decode prog_7_method_33_code 145 = .ok (.iload 8, 2) := by decide +kernel
theorem d_M_cite_147 : decode prog_7_method_33_code 147 = .ok (.bipush 64, 2) := by decide +kernel
theorem d_M_cite_149 : decode prog_7_method_33_code 149 = .ok (.if_icmp .ne 15, 3) := by decide +kernel
theorem d_M_cite_152 : decode prog_7_method_33_code 152 = .ok (.iload 9, 2) := by decide +kernel
theorem d_M_cite_154 : decode prog_7_method_33_code 154 = .ok (.iload_n 3, 1) := by decide +kernel
theorem d_M_cite_155 : decode prog_7_method_33_code 155 = .ok (.iload 5, 2) := by decide +kernel
theorem d_M_cite_157 : decode prog_7_method_33_code 157 = .ok (.isub, 1) := by decide +kernel
theorem d_M_cite_158 : decode prog_7_method_33_code 158 = .ok (.invokestatic 141, 3) := by decide +kernel
theorem d_M_cite_161 : decode prog_7_method_33_code 161 = .ok (.goto 24, 3) := by decide +kernel
theorem d_M_cite_164 : decode prog_7_method_33_code 164 = .ok (.iload 8, 2) := by decide +kernel
theorem d_M_cite_166 : decode prog_7_method_33_code 166 = .ok (.bipush 36, 2) := by decide +kernel
theorem d_M_cite_168 : decode prog_7_method_33_code 168 = .ok (.if_icmp .ne 15, 3) := by decide +kernel
theorem d_M_cite_171 : decode prog_7_method_33_code 171 = .ok (.bipush 97, 2) := by decide +kernel
theorem d_M_cite_173 : decode prog_7_method_33_code 173 = .ok (.aload_n 0, 1) := by decide +kernel
theorem d_M_cite_174 : decode prog_7_method_33_code 174 = .ok (.getfield 13, 3) := by decide +kernel
theorem d_M_cite_177 : decode prog_7_method_33_code 177 = .ok (.iload_n 1, 1) := by decide +kernel
theorem d_M_cite_178 : decode prog_7_method_33_code 178 = .ok (.iaload, 1) := by decide +kernel
theorem d_M_cite_179 : decode prog_7_method_33_code 179 = .ok (.iadd, 1) := by decide +kernel
theorem d_M_cite_180 : decode prog_7_method_33_code 180 = .ok (.goto 5, 3) := by decide +kernel
theorem d_M_cite_183 : decode prog_7_method_33_code 183 = .ok (.iload 8, 2) := by decide +kernel
theorem d_M_cite_185 : decode prog_7_method_33_code 185 = .ok (.istore 6, 2) := by decide +kernel
theorem d_M_cite_187 : decode prog_7_method_33_code 187 = .ok (.iload 5, 2) := by decide +kernel
theorem d_M_cite_189 : decode prog_7_method_33_code 189 = .ok (.iload 10, 2) := by decide +kernel
theorem d_M_cite_191 : decode prog_7_method_33_code 191 = .ok (.iadd, 1) := by decide +kernel
theorem d_M_cite_192 : decode prog_7_method_33_code 192 = .ok (.istore 5, 2) := by decide +kernel
theorem d_M_cite_194 : decode prog_7_method_33_code 194 = .ok (.iinc 7 1, 3) := by decide +kernel
theorem d_M_cite_197 : decode prog_7_method_33_code 197 = .ok (.goto (-159), 3) := by decide +kernel
theorem d_M_cite_200 : decode prog_7_method_33_code 200 = .ok (.aload_n 0, 1) := by decide +kernel
theorem d_M_cite_201 : decode prog_7_method_33_code 201 = .ok (.iload 4, 2) := by decide +kernel
theorem d_M_cite_203 : decode prog_7_method_33_code 203 = .ok (.ifCond .eq 13, 3) := by decide +kernel
theorem d_M_cite_206 : decode prog_7_method_33_code 206 = .ok (.iload_n 3, 1) := by decide +kernel
theorem d_M_cite_207 : decode prog_7_method_33_code 207 = .ok (.iload 5, 2) := by decide +kernel
theorem d_M_cite_209 : decode prog_7_method_33_code 209 = .ok (.if_icmp .ge 7, 3) := by decide +kernel
theorem d_M_cite_212 : decode prog_7_method_33_code 212 = .ok (.iconst 1, 1) := by decide +kernel
theorem d_M_cite_213 : decode prog_7_method_33_code 213 = .ok (.goto 4, 3) := by decide +kernel
theorem d_M_cite_216 : decode prog_7_method_33_code 216 = .ok (.iconst 0, 1) := by decide +kernel
theorem d_M_cite_217 : decode prog_7_method_33_code 217 = .ok (.iconst 1, 1) := by decide +kernel
theorem d_M_cite_218 : decode prog_7_method_33_code 218 = .ok (.iconst 1, 1) := by decide +kernel
theorem d_M_cite_219 : decode prog_7_method_33_code 219 = .ok (.invokevirtual 95, 3) := by decide +kernel
theorem d_M_cite_222 : decode prog_7_method_33_code 222 = .ok (.ifCond .ne 5, 3) := by decide +kernel
theorem d_M_cite_225 : decode prog_7_method_33_code 225 = .ok (.iconst 0, 1) := by decide +kernel
theorem d_M_cite_226 : decode prog_7_method_33_code 226 = .ok (.ireturn, 1) := by decide +kernel
theorem d_M_cite_227 : decode prog_7_method_33_code 227 = .ok (.iload_n 3, 1) := by decide +kernel
theorem d_M_cite_228 : decode prog_7_method_33_code 228 = .ok (.iconst (-1), 1) := by decide +kernel
theorem d_M_cite_229 : decode prog_7_method_33_code 229 = .ok (.if_icmp .ne 8, 3) := by decide +kernel
theorem d_M_cite_232 : decode prog_7_method_33_code 232 = .ok (.iload 5, 2) := by decide +kernel
theorem d_M_cite_234 : decode prog_7_method_33_code 234 = .ok (.goto 5, 3) := by decide +kernel
theorem d_M_cite_237 : decode prog_7_method_33_code 237 = .ok (.iload 6, 2) := by decide +kernel
theorem d_M_cite_239 : decode prog_7_method_33_code 239 = .ok (.ireturn, 1) := by decide +kernel
theorem d_M_count_0 : decode prog_7_method_34_code 0 = .ok (.aload_n 0, 1) := by decide +kernel
theorem d_M_count_1 : decode prog_7_method_34_code 1 = .ok (.iload_n 1, 1) := by decide +kernel
theorem d_M_count_2 : decode prog_7_method_34_code 2 = .ok (.iconst 0, 1) := by decide +kernel
theorem d_M_count_3 : decode prog_7_method_34_code 3 = .ok (.iconst 4, 1) := by decide +kernel
theorem d_M_count_4 : decode prog_7_method_34_code 4 = .ok (.invokestatic 88, 3) := by decide +kernel
theorem d_M_count_7 : decode prog_7_method_34_code 7 = .ok (.iconst 1, 1) := by decide +kernel
theorem d_M_count_8 : decode prog_7_method_34_code 8 = .ok (.iconst 1, 1) := by decide +kernel
theorem d_M_count_9 : decode prog_7_method_34_code 9 = .ok (.invokevirtual 95, 3) := by decide +kernel
theorem d_M_count_12 : decode prog_7_method_34_code 12 = .ok (.ifCond .ne 5, 3) := by decide +kernel
theorem d_M_count_15 : decode prog_7_method_34_code 15 = .ok (.iconst 0, 1) := by decide +kernel
theorem d_M_count_16 : decode prog_7_method_34_code 16 = .ok (.ireturn, 1) := by decide +kernel
theorem d_M_count_17 : decode prog_7_method_34_code 17 = .ok (.iconst 0, 1) := by decide +kernel
theorem d_M_count_18 : decode prog_7_method_34_code 18 = .ok (.istore_n 2, 1) := by decide +kernel
theorem d_M_count_19 : decode prog_7_method_34_code 19 = .ok (.iconst 0, 1) := by decide +kernel
theorem d_M_count_20 : decode prog_7_method_34_code 20 = .ok (.istore_n 3, 1) := by decide +kernel
theorem d_M_count_21 : decode prog_7_method_34_code 21 = .ok (.iload_n 3, 1) := by decide +kernel
theorem d_M_count_22 : decode prog_7_method_34_code 22 = .ok (.sipush 576, 3) := by decide +kernel
theorem d_M_count_25 : decode prog_7_method_34_code 25 = .ok (.if_icmp .ge 26, 3) := by decide +kernel
theorem d_M_count_28 : decode prog_7_method_34_code 28 = .ok (.aload_n 0, 1) := by decide +kernel
theorem d_M_count_29 : decode prog_7_method_34_code 29 = .ok (.getfield 38, 3) := by decide +kernel
theorem d_M_count_32 : decode prog_7_method_34_code 32 = .ok (.iload_n 3, 1) := by decide +kernel
theorem d_M_count_33 : decode prog_7_method_34_code 33 = .ok (.baload, 1) := by decide +kernel
theorem d_M_count_34 : decode prog_7_method_34_code 34 = .ok (.ifCond .eq 9, 3) := by decide +kernel
theorem d_M_count_37 : decode prog_7_method_34_code 37 = .ok (.iload_n 2, 1) := by decide +kernel
theorem d_M_count_38 : decode prog_7_method_34_code 38 = .ok (.iconst 1, 1) := by decide +kernel
theorem d_M_count_39 : decode prog_7_method_34_code 39 = .ok (.iadd, 1) := by decide +kernel
theorem d_M_count_40 : decode prog_7_method_34_code 40 = .ok (.goto 4, 3) := by decide +kernel
theorem d_M_count_43 : decode prog_7_method_34_code 43 = .ok (.iload_n 2, 1) := by decide +kernel
theorem d_M_count_44 : decode prog_7_method_34_code 44 = .ok (.istore_n 2, 1) := by decide +kernel
theorem d_M_count_45 : decode prog_7_method_34_code 45 = .ok (.iinc 3 1, 3) := by decide +kernel
theorem d_M_count_48 : decode prog_7_method_34_code 48 = .ok (.goto (-27), 3) := by decide +kernel
theorem d_M_count_51 : decode prog_7_method_34_code 51 = .ok (.iload_n 1, 1) := by decide +kernel
theorem d_M_count_52 : decode prog_7_method_34_code 52 = .ok (.ifCond .ne 10, 3) := by decide +kernel
theorem d_M_count_55 : decode prog_7_method_34_code 55 = .ok (.aload_n 0, 1) := by decide +kernel
theorem d_M_count_56 : decode prog_7_method_34_code 56 = .ok (.getfield 92, 3) := by decide +kernel
theorem d_M_count_59 : decode prog_7_method_34_code 59 = .ok (.goto 40, 3) := by decide +kernel
theorem d_M_count_62 : decode prog_7_method_34_code 62 = .ok (.iload_n 1, 1) := by decide +kernel
theorem d_M_count_63 : decode prog_7_method_34_code 63 = .ok (.iconst 1, 1) := by decide +kernel
theorem d_M_count_64 : decode prog_7_method_34_code 64 = .ok (.if_icmp .ne 10, 3) := by decide +kernel
theorem d_M_count_67 : decode prog_7_method_34_code 67 = .ok (.aload_n 0, 1) := by decide +kernel
theorem d_M_count_68 : decode prog_7_method_34_code 68 = .ok (.getfield 82, 3) := by decide +kernel
theorem d_M_count_71 : decode prog_7_method_34_code 71 = .ok (.goto 28, 3) := by decide +kernel
theorem d_M_count_74 : decode prog_7_method_34_code 74 = .ok (.iload_n 1, 1) := by decide +kernel
theorem d_M_count_75 : decode prog_7_method_34_code 75 = .ok (.iconst 2, 1) := by decide +kernel
theorem d_M_count_76 : decode prog_7_method_34_code 76 = .ok (.if_icmp .ne 10, 3) := by decide +kernel
theorem d_M_count_79 : decode prog_7_method_34_code 79 = .ok (.aload_n 0, 1) := by decide +kernel
theorem d_M_count_80 : decode prog_7_method_34_code 80 = .ok (.getfield 85, 3) := by decide +kernel
theorem d_M_count_83 : decode prog_7_method_34_code 83 = .ok (.goto 16, 3) := by decide +kernel
theorem d_M_count_86 : decode prog_7_method_34_code 86 = .ok (.iload_n 1, 1) := by decide +kernel
theorem d_M_count_87 : decode prog_7_method_34_code 87 = .ok (.iconst 3, 1) := by decide +kernel
theorem d_M_count_88 : decode prog_7_method_34_code 88 = .ok (.if_icmp .ne 10, 3) := by decide +kernel
theorem d_M_count_91 : decode prog_7_method_34_code 91 = .ok (.aload_n 0, 1) := by decide +kernel
theorem d_M_count_92 : decode prog_7_method_34_code 92 = .ok (.getfield 116, 3) := by decide +kernel
theorem d_M_count_95 : decode prog_7_method_34_code 95 = .ok (.goto 4, 3) := by decide +kernel
theorem d_M_count_98 : decode prog_7_method_34_code 98 = .ok (.iload_n 2, 1) := by decide +kernel
theorem d_M_count_99 : decode prog_7_method_34_code 99 = .ok (.ireturn, 1) := by decide +kernel
theorem d_T_init_0 : decode prog_5_method_1_code 0 = .ok (.aload_n 0, 1) := by decide +kernel
theorem d_T_init_1 : decode prog_5_method_1_code 1 = .ok (.invokespecial 3, 3) := by decide +kernel
theorem d_T_init_4 : decode prog_5_method_1_code 4 = .ok (.aload_n 0, 1) := by decide +kernel
theorem d_T_init_5 : decode prog_5_method_1_code 5 = .ok (.sipush 1740, 3) := by decide +kernel
theorem d_T_init_8 : decode prog_5_method_1_code 8 = .ok (.newarray .int, 2) := by decide +kernel
theorem d_T_init_10 : decode prog_5_method_1_code 10 = .ok (.putfield 9, 3) := by decide +kernel
theorem d_T_init_13 : decode prog_5_method_1_code 13 = .ok (.aload_n 0, 1) := by decide +kernel
theorem d_T_init_14 : decode prog_5_method_1_code 14 = .ok (.bipush 29, 2) := by decide +kernel
theorem d_T_init_16 : decode prog_5_method_1_code 16 = .ok (.newarray .int, 2) := by decide +kernel
theorem d_T_init_18 : decode prog_5_method_1_code 18 = .ok (.putfield 15, 3) := by decide +kernel
theorem d_T_init_21 : decode prog_5_method_1_code 21 = .ok (.return_, 1) := by decide +kernel
theorem d_S_init_0 : decode prog_4_method_1_code 0 = .ok (.aload_n 0, 1) := by decide +kernel
theorem d_S_init_1 : decode prog_4_method_1_code 1 = .ok (.invokespecial 3, 3) := by decide +kernel
theorem d_S_init_4 : decode prog_4_method_1_code 4 = .ok (.aload_n 0, 1) := by decide +kernel
theorem d_S_init_5 : decode prog_4_method_1_code 5 = .ok (.bipush 24, 2) := by decide +kernel
theorem d_S_init_7 : decode prog_4_method_1_code 7 = .ok (.newarray .int, 2) := by decide +kernel
theorem d_S_init_9 : decode prog_4_method_1_code 9 = .ok (.putfield 9, 3) := by decide +kernel
theorem d_S_init_12 : decode prog_4_method_1_code 12 = .ok (.aload_n 0, 1) := by decide +kernel
theorem d_S_init_13 : decode prog_4_method_1_code 13 = .ok (.bipush 24, 2) := by decide +kernel
theorem d_S_init_15 : decode prog_4_method_1_code 15 = .ok (.newarray .int, 2) := by decide +kernel
theorem d_S_init_17 : decode prog_4_method_1_code 17 = .ok (.putfield 15, 3) := by decide +kernel
theorem d_S_init_20 : decode prog_4_method_1_code 20 = .ok (.aload_n 0, 1) := by decide +kernel
theorem d_S_init_21 : decode prog_4_method_1_code 21 = .ok (.bipush 24, 2) := by decide +kernel
theorem d_S_init_23 : decode prog_4_method_1_code 23 = .ok (.newarray .int, 2) := by decide +kernel
theorem d_S_init_25 : decode prog_4_method_1_code 25 = .ok (.putfield 18, 3) := by decide +kernel
theorem d_S_init_28 : decode prog_4_method_1_code 28 = .ok (.return_, 1) := by decide +kernel
theorem d_C_init_0 : decode prog_2_method_1_code 0 = .ok (.aload_n 0, 1) := by decide +kernel
theorem d_C_init_1 : decode prog_2_method_1_code 1 = .ok (.invokespecial 3, 3) := by decide +kernel
theorem d_C_init_4 : decode prog_2_method_1_code 4 = .ok (.aload_n 0, 1) := by decide +kernel
theorem d_C_init_5 : decode prog_2_method_1_code 5 = .ok (.bipush 24, 2) := by decide +kernel
theorem d_C_init_7 : decode prog_2_method_1_code 7 = .ok (.newarray .int, 2) := by decide +kernel
theorem d_C_init_9 : decode prog_2_method_1_code 9 = .ok (.putfield 9, 3) := by decide +kernel
theorem d_C_init_12 : decode prog_2_method_1_code 12 = .ok (.aload_n 0, 1) := by decide +kernel
theorem d_C_init_13 : decode prog_2_method_1_code 13 = .ok (.bipush 24, 2) := by decide +kernel
theorem d_C_init_15 : decode prog_2_method_1_code 15 = .ok (.newarray .int, 2) := by decide +kernel
theorem d_C_init_17 : decode prog_2_method_1_code 17 = .ok (.putfield 15, 3) := by decide +kernel
theorem d_C_init_20 : decode prog_2_method_1_code 20 = .ok (.aload_n 0, 1) := by decide +kernel
theorem d_C_init_21 : decode prog_2_method_1_code 21 = .ok (.bipush 24, 2) := by decide +kernel
theorem d_C_init_23 : decode prog_2_method_1_code 23 = .ok (.newarray .int, 2) := by decide +kernel
theorem d_C_init_25 : decode prog_2_method_1_code 25 = .ok (.putfield 18, 3) := by decide +kernel
theorem d_C_init_28 : decode prog_2_method_1_code 28 = .ok (.aload_n 0, 1) := by decide +kernel
theorem d_C_init_29 : decode prog_2_method_1_code 29 = .ok (.bipush 24, 2) := by decide +kernel
theorem d_C_init_31 : decode prog_2_method_1_code 31 = .ok (.newarray .int, 2) := by decide +kernel
theorem d_C_init_33 : decode prog_2_method_1_code 33 = .ok (.putfield 21, 3) := by decide +kernel
theorem d_C_init_36 : decode prog_2_method_1_code 36 = .ok (.aload_n 0, 1) := by decide +kernel
theorem d_C_init_37 : decode prog_2_method_1_code 37 = .ok (.bipush 24, 2) := by decide +kernel
theorem d_C_init_39 : decode prog_2_method_1_code 39 = .ok (.newarray .int, 2) := by decide +kernel
theorem d_C_init_41 : decode prog_2_method_1_code 41 = .ok (.putfield 24, 3) := by decide +kernel
theorem d_C_init_44 : decode prog_2_method_1_code 44 = .ok (.return_, 1) := by decide +kernel
theorem d_O_init_0 : decode prog_3_method_1_code 0 = .ok (.aload_n 0, 1) := by decide +kernel
theorem d_O_init_1 : decode prog_3_method_1_code 1 = .ok (.invokespecial 3, 3) := by decide +kernel
theorem d_O_init_4 : decode prog_3_method_1_code 4 = .ok (.aload_n 0, 1) := by decide +kernel
theorem d_O_init_5 : decode prog_3_method_1_code 5 = .ok (.sipush 300, 3) := by decide +kernel
theorem d_O_init_8 : decode prog_3_method_1_code 8 = .ok (.newarray .int, 2) := by decide +kernel
theorem d_O_init_10 : decode prog_3_method_1_code 10 = .ok (.putfield 9, 3) := by decide +kernel
theorem d_O_init_13 : decode prog_3_method_1_code 13 = .ok (.aload_n 0, 1) := by decide +kernel
theorem d_O_init_14 : decode prog_3_method_1_code 14 = .ok (.sipush 300, 3) := by decide +kernel
theorem d_O_init_17 : decode prog_3_method_1_code 17 = .ok (.newarray .int, 2) := by decide +kernel
theorem d_O_init_19 : decode prog_3_method_1_code 19 = .ok (.putfield 15, 3) := by decide +kernel
theorem d_O_init_22 : decode prog_3_method_1_code 22 = .ok (.aload_n 0, 1) := by decide +kernel
theorem d_O_init_23 : decode prog_3_method_1_code 23 = .ok (.sipush 300, 3) := by decide +kernel
theorem d_O_init_26 : decode prog_3_method_1_code 26 = .ok (.newarray .int, 2) := by decide +kernel
theorem d_O_init_28 : decode prog_3_method_1_code 28 = .ok (.putfield 18, 3) := by decide +kernel
theorem d_O_init_31 : decode prog_3_method_1_code 31 = .ok (.aload_n 0, 1) := by decide +kernel
theorem d_O_init_32 : decode prog_3_method_1_code 32 = .ok (.sipush 300, 3) := by decide +kernel
theorem d_O_init_35 : decode prog_3_method_1_code 35 = .ok (.newarray .int, 2) := by decide +kernel
theorem d_O_init_37 : decode prog_3_method_1_code 37 = .ok (.putfield 21, 3) := by decide +kernel
theorem d_O_init_40 : decode prog_3_method_1_code 40 = .ok (.aload_n 0, 1) := by decide +kernel
theorem d_O_init_41 : decode prog_3_method_1_code 41 = .ok (.sipush 300, 3) := by decide +kernel
theorem d_O_init_44 : decode prog_3_method_1_code 44 = .ok (.newarray .int, 2) := by decide +kernel
theorem d_O_init_46 : decode prog_3_method_1_code 46 = .ok (.putfield 24, 3) := by decide +kernel
theorem d_O_init_49 : decode prog_3_method_1_code 49 = .ok (.aload_n 0, 1) := by decide +kernel
theorem d_O_init_50 : decode prog_3_method_1_code 50 = .ok (.bipush 32, 2) := by decide +kernel
theorem d_O_init_52 : decode prog_3_method_1_code 52 = .ok (.newarray .int, 2) := by decide +kernel
theorem d_O_init_54 : decode prog_3_method_1_code 54 = .ok (.putfield 27, 3) := by decide +kernel
theorem d_O_init_57 : decode prog_3_method_1_code 57 = .ok (.aload_n 0, 1) := by decide +kernel
theorem d_O_init_58 : decode prog_3_method_1_code 58 = .ok (.bipush 100, 2) := by decide +kernel
theorem d_O_init_60 : decode prog_3_method_1_code 60 = .ok (.newarray .int, 2) := by decide +kernel
theorem d_O_init_62 : decode prog_3_method_1_code 62 = .ok (.putfield 30, 3) := by decide +kernel
theorem d_O_init_65 : decode prog_3_method_1_code 65 = .ok (.return_, 1) := by decide +kernel
theorem d_X_init_0 : decode prog_1_method_1_code 0 = .ok (.aload_n 0, 1) := by decide +kernel
theorem d_X_init_1 : decode prog_1_method_1_code 1 = .ok (.invokespecial 3, 3) := by decide +kernel
theorem d_X_init_4 : decode prog_1_method_1_code 4 = .ok (.aload_n 0, 1) := by decide +kernel
theorem d_X_init_5 : decode prog_1_method_1_code 5 = .ok (.new 9, 3) := by decide +kernel
theorem d_X_init_8 : decode prog_1_method_1_code 8 = .ok (.dup, 1) := by decide +kernel
theorem d_X_init_9 : decode prog_1_method_1_code 9 = .ok (.invokespecial 11, 3) := by decide +kernel
theorem d_X_init_12 : decode prog_1_method_1_code 12 = .ok (.putfield 12, 3) := by decide +kernel
theorem d_X_init_15 : decode prog_1_method_1_code 15 = .ok (.aload_n 0, 1) := by decide +kernel
theorem d_X_init_16 : decode prog_1_method_1_code 16 = .ok (.new 16, 3) := by decide +kernel
theorem d_X_init_19 : decode prog_1_method_1_code 19 = .ok (.dup, 1) := by decide +kernel
theorem d_X_init_20 : decode prog_1_method_1_code 20 = .ok (.invokespecial 18, 3) := by decide +kernel
theorem d_X_init_23 : decode prog_1_method_1_code 23 = .ok (.putfield 19, 3) := by decide +kernel
theorem d_X_init_26 : decode prog_1_method_1_code 26 = .ok (.aload_n 0, 1) := by decide +kernel
theorem d_X_init_27 : decode prog_1_method_1_code 27 = .ok (.new 23, 3) := by decide +kernel
theorem d_X_init_30 : decode prog_1_method_1_code 30 = .ok (.dup, 1) := by decide +kernel
theorem d_X_init_31 : decode prog_1_method_1_code 31 = .ok (.invokespecial 25, 3) := by decide +kernel
theorem d_X_init_34 : decode prog_1_method_1_code 34 = .ok (.putfield 26, 3) := by decide +kernel
theorem d_X_init_37 : decode prog_1_method_1_code 37 = .ok (.aload_n 0, 1) := by decide +kernel
theorem d_X_init_38 : decode prog_1_method_1_code 38 = .ok (.new 30, 3) := by decide +kernel
theorem d_X_init_41 : decode prog_1_method_1_code 41 = .ok (.dup, 1) := by decide +kernel
theorem d_X_init_42 : decode prog_1_method_1_code 42 = .ok (.invokespecial 32, 3) := by decide +kernel
theorem d_X_init_45 : decode prog_1_method_1_code 45 = .ok (.putfield 33, 3) := by decide +kernel
theorem d_X_init_48 : decode prog_1_method_1_code 48 = .ok (.return_, 1) := by decide +kernel
theorem d_M_init_0 : decode prog_7_method_1_code 0 = .ok (.aload_n 0, 1) := by decide +kernel
theorem d_M_init_1 : decode prog_7_method_1_code 1 = .ok (.invokespecial 1, 3) := by decide +kernel
theorem d_M_init_4 : decode prog_7_method_1_code 4 = .ok (.aload_n 0, 1) := by decide +kernel
theorem d_M_init_5 : decode prog_7_method_1_code 5 = .ok (.bipush 60, 2) := by decide +kernel
theorem d_M_init_7 : decode prog_7_method_1_code 7 = .ok (.newarray .int, 2) := by decide +kernel
theorem d_M_init_9 : decode prog_7_method_1_code 9 = .ok (.putfield 7, 3) := by decide +kernel
theorem d_M_init_12 : decode prog_7_method_1_code 12 = .ok (.aload_n 0, 1) := by decide +kernel
theorem d_M_init_13 : decode prog_7_method_1_code 13 = .ok (.bipush 24, 2) := by decide +kernel
theorem d_M_init_15 : decode prog_7_method_1_code 15 = .ok (.newarray .int, 2) := by decide +kernel
theorem d_M_init_17 : decode prog_7_method_1_code 17 = .ok (.putfield 13, 3) := by decide +kernel
theorem d_M_init_20 : decode prog_7_method_1_code 20 = .ok (.aload_n 0, 1) := by decide +kernel
theorem d_M_init_21 : decode prog_7_method_1_code 21 = .ok (.bipush 24, 2) := by decide +kernel
theorem d_M_init_23 : decode prog_7_method_1_code 23 = .ok (.newarray .int, 2) := by decide +kernel
theorem d_M_init_25 : decode prog_7_method_1_code 25 = .ok (.putfield 16, 3) := by decide +kernel
theorem d_M_init_28 : decode prog_7_method_1_code 28 = .ok (.aload_n 0, 1) := by decide +kernel
theorem d_M_init_29 : decode prog_7_method_1_code 29 = .ok (.bipush 24, 2) := by decide +kernel
theorem d_M_init_31 : decode prog_7_method_1_code 31 = .ok (.newarray .int, 2) := by decide +kernel
theorem d_M_init_33 : decode prog_7_method_1_code 33 = .ok (.putfield 19, 3) := by decide +kernel
theorem d_M_init_36 : decode prog_7_method_1_code 36 = .ok (.aload_n 0, 1) := by decide +kernel
theorem d_M_init_37 : decode prog_7_method_1_code 37 = .ok (.bipush 24, 2) := by decide +kernel
theorem d_M_init_39 : decode prog_7_method_1_code 39 = .ok (.newarray .int, 2) := by decide +kernel
theorem d_M_init_41 : decode prog_7_method_1_code 41 = .ok (.putfield 22, 3) := by decide +kernel
theorem d_M_init_44 : decode prog_7_method_1_code 44 = .ok (.aload_n 0, 1) := by decide +kernel
theorem d_M_init_45 : decode prog_7_method_1_code 45 = .ok (.sipush 1440, 3) := by decide +kernel
theorem d_M_init_48 : decode prog_7_method_1_code 48 = .ok (.newarray .int, 2) := by decide +kernel
theorem d_M_init_50 : decode prog_7_method_1_code 50 = .ok (.putfield 25, 3) := by decide +kernel
theorem d_M_init_53 : decode prog_7_method_1_code 53 = .ok (.aload_n 0, 1) := by decide +kernel
theorem d_M_init_54 : decode prog_7_method_1_code 54 = .ok (.iconst 4, 1) := by decide +kernel
theorem d_M_init_55 : decode prog_7_method_1_code 55 = .ok (.newarray .int, 2) := by decide +kernel
theorem d_M_init_57 : decode prog_7_method_1_code 57 = .ok (.putfield 28, 3) := by decide +kernel
theorem d_M_init_60 : decode prog_7_method_1_code 60 = .ok (.aload_n 0, 1) := by decide +kernel
theorem d_M_init_61 : decode prog_7_method_1_code 61 = .ok (.sipush 240, 3) := by decide +kernel
theorem d_M_init_64 : decode prog_7_method_1_code 64 = .ok (.newarray .int, 2) := by decide +kernel
theorem d_M_init_66 : decode prog_7_method_1_code 66 = .ok (.putfield 31, 3) := by decide +kernel
theorem d_M_init_69 : decode prog_7_method_1_code 69 = .ok (.aload_n 0, 1) := by decide +kernel
theorem d_M_init_70 : decode prog_7_method_1_code 70 = .ok (.sipush 576, 3) := by decide +kernel
theorem d_M_init_73 : decode prog_7_method_1_code 73 = .ok (.newarray .boolean, 2) := by decide +kernel
theorem d_M_init_75 : decode prog_7_method_1_code 75 = .ok (.putfield 34, 3) := by decide +kernel
theorem d_M_init_78 : decode prog_7_method_1_code 78 = .ok (.aload_n 0, 1) := by decide +kernel
theorem d_M_init_79 : decode prog_7_method_1_code 79 = .ok (.sipush 576, 3) := by decide +kernel
theorem d_M_init_82 : decode prog_7_method_1_code 82 = .ok (.newarray .boolean, 2) := by decide +kernel
theorem d_M_init_84 : decode prog_7_method_1_code 84 = .ok (.putfield 38, 3) := by decide +kernel
theorem d_M_init_87 : decode prog_7_method_1_code 87 = .ok (.aload_n 0, 1) := by decide +kernel
theorem d_M_init_88 : decode prog_7_method_1_code 88 = .ok (.bipush 24, 2) := by decide +kernel
theorem d_M_init_90 : decode prog_7_method_1_code 90 = .ok (.newarray .int, 2) := by decide +kernel
theorem d_M_init_92 : decode prog_7_method_1_code 92 = .ok (.putfield 41, 3) := by decide +kernel
theorem d_M_init_95 : decode prog_7_method_1_code 95 = .ok (.aload_n 0, 1) := by decide +kernel
theorem d_M_init_96 : decode prog_7_method_1_code 96 = .ok (.bipush 24, 2) := by decide +kernel
theorem d_M_init_98 : decode prog_7_method_1_code 98 = .ok (.newarray .int, 2) := by decide +kernel
theorem d_M_init_100 : decode prog_7_method_1_code 100 = .ok (.putfield 44, 3) := by decide +kernel
theorem d_M_init_103 : decode prog_7_method_1_code 103 = .ok (.aload_n 0, 1) := by decide +kernel
theorem d_M_init_104 : decode prog_7_method_1_code 104 = .ok (.bipush 24, 2) := by decide +kernel
theorem d_M_init_106 : decode prog_7_method_1_code 106 = .ok (.newarray .int, 2) := by decide +kernel
theorem d_M_init_108 : decode prog_7_method_1_code 108 = .ok (.putfield 47, 3) := by decide +kernel
theorem d_M_init_111 : decode prog_7_method_1_code 111 = .ok (.aload_n 0, 1) := by decide +kernel
theorem d_M_init_112 : decode prog_7_method_1_code 112 = .ok (.bipush 24, 2) := by decide +kernel
theorem d_M_init_114 : decode prog_7_method_1_code 114 = .ok (.newarray .boolean, 2) := by decide +kernel
theorem d_M_init_116 : decode prog_7_method_1_code 116 = .ok (.putfield 50, 3) := by decide +kernel
theorem d_M_init_119 : decode prog_7_method_1_code 119 = .ok (.aload_n 0, 1) := by decide +kernel
theorem d_M_init_120 : decode prog_7_method_1_code 120 = .ok (.bipush 24, 2) := by decide +kernel
theorem d_M_init_122 : decode prog_7_method_1_code 122 = .ok (.newarray .boolean, 2) := by decide +kernel
theorem d_M_init_124 : decode prog_7_method_1_code 124 = .ok (.putfield 53, 3) := by decide +kernel
theorem d_M_init_127 : decode prog_7_method_1_code 127 = .ok (.aload_n 0, 1) := by decide +kernel
theorem d_M_init_128 : decode prog_7_method_1_code 128 = .ok (.sipush 300, 3) := by decide +kernel
theorem d_M_init_131 : decode prog_7_method_1_code 131 = .ok (.newarray .int, 2) := by decide +kernel
theorem d_M_init_133 : decode prog_7_method_1_code 133 = .ok (.putfield 56, 3) := by decide +kernel
theorem d_M_init_136 : decode prog_7_method_1_code 136 = .ok (.aload_n 0, 1) := by decide +kernel
theorem d_M_init_137 : decode prog_7_method_1_code 137 = .ok (.sipush 300, 3) := by decide +kernel
theorem d_M_init_140 : decode prog_7_method_1_code 140 = .ok (.newarray .int, 2) := by decide +kernel
theorem d_M_init_142 : decode prog_7_method_1_code 142 = .ok (.putfield 59, 3) := by decide +kernel
theorem d_M_init_145 : decode prog_7_method_1_code 145 = .ok (.aload_n 0, 1) := by decide +kernel
theorem d_M_init_146 : decode prog_7_method_1_code 146 = .ok (.sipush 300, 3) := by decide +kernel
theorem d_M_init_149 : decode prog_7_method_1_code 149 = .ok (.newarray .int, 2) := by decide +kernel
theorem d_M_init_151 : decode prog_7_method_1_code 151 = .ok (.putfield 62, 3) := by decide +kernel
theorem d_M_init_154 : decode prog_7_method_1_code 154 = .ok (.aload_n 0, 1) := by decide +kernel
theorem d_M_init_155 : decode prog_7_method_1_code 155 = .ok (.sipush 300, 3) := by decide +kernel
theorem d_M_init_158 : decode prog_7_method_1_code 158 = .ok (.newarray .int, 2) := by decide +kernel
theorem d_M_init_160 : decode prog_7_method_1_code 160 = .ok (.putfield 65, 3) := by decide +kernel
theorem d_M_init_163 : decode prog_7_method_1_code 163 = .ok (.aload_n 0, 1) := by decide +kernel
theorem d_M_init_164 : decode prog_7_method_1_code 164 = .ok (.sipush 300, 3) := by decide +kernel
theorem d_M_init_167 : decode prog_7_method_1_code 167 = .ok (.newarray .int, 2) := by decide +kernel
theorem d_M_init_169 : decode prog_7_method_1_code 169 = .ok (.putfield 68, 3) := by decide +kernel
theorem d_M_init_172 : decode prog_7_method_1_code 172 = .ok (.aload_n 0, 1) := by decide +kernel
theorem d_M_init_173 : decode prog_7_method_1_code 173 = .ok (.bipush 32, 2) := by decide +kernel
theorem d_M_init_175 : decode prog_7_method_1_code 175 = .ok (.newarray .int, 2) := by decide +kernel
theorem d_M_init_177 : decode prog_7_method_1_code 177 = .ok (.putfield 71, 3) := by decide +kernel
theorem d_M_init_180 : decode prog_7_method_1_code 180 = .ok (.aload_n 0, 1) := by decide +kernel
theorem d_M_init_181 : decode prog_7_method_1_code 181 = .ok (.bipush 100, 2) := by decide +kernel
theorem d_M_init_183 : decode prog_7_method_1_code 183 = .ok (.newarray .int, 2) := by decide +kernel
theorem d_M_init_185 : decode prog_7_method_1_code 185 = .ok (.putfield 74, 3) := by decide +kernel
theorem d_M_init_188 : decode prog_7_method_1_code 188 = .ok (.return_, 1) := by decide +kernel
theorem d_H_unit_0 : decode method_3_code 0 = .ok (.aload_n 2, 1) := by decide +kernel
theorem d_H_unit_1 : decode method_3_code 1 = .ok (.iconst 0, 1) := by decide +kernel
theorem d_H_unit_2 : decode method_3_code 2 = .ok (.aload_n 0, 1) := by decide +kernel
theorem d_H_unit_3 : decode method_3_code 3 = .ok (.iload_n 1, 1) := by decide +kernel
theorem d_H_unit_4 : decode method_3_code 4 = .ok (.invokevirtual 7, 3) := by decide +kernel
theorem d_H_unit_7 : decode method_3_code 7 = .ok (.i2l, 1) := by decide +kernel
theorem d_H_unit_8 : decode method_3_code 8 = .ok (.lastore, 1) := by decide +kernel
theorem d_H_unit_9 : decode method_3_code 9 = .ok (.goto 9, 3) := by decide +kernel
theorem d_H_unit_12 : decode method_3_code 12 = .ok (.astore_n 3, 1) := by decide +kernel
theorem d_H_unit_13 : decode method_3_code 13 = .ok (.iconst 1, 1) := by decide +kernel
theorem d_H_unit_14 : decode method_3_code 14 = .ok (.ireturn, 1) := by decide +kernel
theorem d_H_unit_15 : decode method_3_code 15 = .ok (.astore_n 3, 1) := by decide +kernel
theorem d_H_unit_16 : decode method_3_code 16 = .ok (.iconst 2, 1) := by decide +kernel
theorem d_H_unit_17 : decode method_3_code 17 = .ok (.ireturn, 1) := by decide +kernel
theorem d_H_unit_18 : decode method_3_code 18 = .ok (.iconst 0, 1) := by decide +kernel
theorem d_H_unit_19 : decode method_3_code 19 = .ok (.ireturn, 1) := by decide +kernel
theorem d_H_source_0 : decode method_4_code 0 = .ok (.aload_n 3, 1) := by decide +kernel
theorem d_H_source_1 : decode method_4_code 1 = .ok (.iconst 0, 1) := by decide +kernel
theorem d_H_source_2 : decode method_4_code 2 = .ok (.aload_n 0, 1) := by decide +kernel
theorem d_H_source_3 : decode method_4_code 3 = .ok (.iload_n 1, 1) := by decide +kernel
theorem d_H_source_4 : decode method_4_code 4 = .ok (.iload_n 2, 1) := by decide +kernel
theorem d_H_source_5 : decode method_4_code 5 = .ok (.invokevirtual 17, 3) := by decide +kernel
theorem d_H_source_8 : decode method_4_code 8 = .ok (.i2l, 1) := by decide +kernel
theorem d_H_source_9 : decode method_4_code 9 = .ok (.lastore, 1) := by decide +kernel
theorem d_H_source_10 : decode method_4_code 10 = .ok (.goto 11, 3) := by decide +kernel
theorem d_H_source_13 : decode method_4_code 13 = .ok (.astore 4, 2) := by decide +kernel
theorem d_H_source_15 : decode method_4_code 15 = .ok (.iconst 1, 1) := by decide +kernel
theorem d_H_source_16 : decode method_4_code 16 = .ok (.ireturn, 1) := by decide +kernel
theorem d_H_source_17 : decode method_4_code 17 = .ok (.astore 4, 2) := by decide +kernel
theorem d_H_source_19 : decode method_4_code 19 = .ok (.iconst 2, 1) := by decide +kernel
theorem d_H_source_20 : decode method_4_code 20 = .ok (.ireturn, 1) := by decide +kernel
theorem d_H_source_21 : decode method_4_code 21 = .ok (.iconst 0, 1) := by decide +kernel
theorem d_H_source_22 : decode method_4_code 22 = .ok (.ireturn, 1) := by decide +kernel
theorem d_H_claim_0 : decode method_5_code 0 = .ok (.aload_n 1, 1) := by decide +kernel
theorem d_H_claim_1 : decode method_5_code 1 = .ok (.iconst 0, 1) := by decide +kernel
theorem d_H_claim_2 : decode method_5_code 2 = .ok (.aload_n 0, 1) := by decide +kernel
theorem d_H_claim_3 : decode method_5_code 3 = .ok (.invokevirtual 21, 3) := by decide +kernel
theorem d_H_claim_6 : decode method_5_code 6 = .ok (.i2l, 1) := by decide +kernel
theorem d_H_claim_7 : decode method_5_code 7 = .ok (.lastore, 1) := by decide +kernel
theorem d_H_claim_8 : decode method_5_code 8 = .ok (.goto 6, 3) := by decide +kernel
theorem d_H_claim_11 : decode method_5_code 11 = .ok (.astore_n 2, 1) := by decide +kernel
theorem d_H_claim_12 : decode method_5_code 12 = .ok (.iconst 1, 1) := by decide +kernel
theorem d_H_claim_13 : decode method_5_code 13 = .ok (.ireturn, 1) := by decide +kernel
theorem d_H_claim_14 : decode method_5_code 14 = .ok (.iconst 0, 1) := by decide +kernel
theorem d_H_claim_15 : decode method_5_code 15 = .ok (.ireturn, 1) := by decide +kernel
theorem d_H_rests_0 : decode method_6_code 0 = .ok (.aload 4, 2) := by decide +kernel
theorem d_H_rests_2 : decode method_6_code 2 = .ok (.iconst 0, 1) := by decide +kernel
theorem d_H_rests_3 : decode method_6_code 3 = .ok (.aload_n 0, 1) := by decide +kernel
theorem d_H_rests_4 : decode method_6_code 4 = .ok (.iload_n 1, 1) := by decide +kernel
theorem d_H_rests_5 : decode method_6_code 5 = .ok (.iload_n 2, 1) := by decide +kernel
theorem d_H_rests_6 : decode method_6_code 6 = .ok (.iload_n 3, 1) := by decide +kernel
theorem d_H_rests_7 : decode method_6_code 7 = .ok (.invokevirtual 25, 3) := by decide +kernel
theorem d_H_rests_10 : decode method_6_code 10 = .ok (.ifCond .eq 7, 3) := by decide +kernel
theorem d_H_rests_13 : decode method_6_code 13 = .ok (.lconst 1, 1) := by decide +kernel
theorem d_H_rests_14 : decode method_6_code 14 = .ok (.goto 4, 3) := by decide +kernel
theorem d_H_rests_17 : decode method_6_code 17 = .ok (.lconst 0, 1) := by decide +kernel
theorem d_H_rests_18 : decode method_6_code 18 = .ok (.lastore, 1) := by decide +kernel
theorem d_H_rests_19 : decode method_6_code 19 = .ok (.goto 7, 3) := by decide +kernel
theorem d_H_rests_22 : decode method_6_code 22 = .ok (.astore 5, 2) := by decide +kernel
theorem d_H_rests_24 : decode method_6_code 24 = .ok (.iconst 1, 1) := by decide +kernel
theorem d_H_rests_25 : decode method_6_code 25 = .ok (.ireturn, 1) := by decide +kernel
theorem d_H_rests_26 : decode method_6_code 26 = .ok (.iconst 0, 1) := by decide +kernel
theorem d_H_rests_27 : decode method_6_code 27 = .ok (.ireturn, 1) := by decide +kernel
theorem d_H_restsOn_0 : decode method_7_code 0 = .ok (.aload_n 3, 1) := by decide +kernel
theorem d_H_restsOn_1 : decode method_7_code 1 = .ok (.iconst 0, 1) := by decide +kernel
theorem d_H_restsOn_2 : decode method_7_code 2 = .ok (.aload_n 0, 1) := by decide +kernel
theorem d_H_restsOn_3 : decode method_7_code 3 = .ok (.iload_n 1, 1) := by decide +kernel
theorem d_H_restsOn_4 : decode method_7_code 4 = .ok (.iload_n 2, 1) := by decide +kernel
theorem d_H_restsOn_5 : decode method_7_code 5 = .ok (.invokevirtual 31, 3) := by decide +kernel
theorem d_H_restsOn_8 : decode method_7_code 8 = .ok (.i2l, 1) := by decide +kernel
theorem d_H_restsOn_9 : decode method_7_code 9 = .ok (.lastore, 1) := by decide +kernel
theorem d_H_restsOn_10 : decode method_7_code 10 = .ok (.goto 7, 3) := by decide +kernel
theorem d_H_restsOn_13 : decode method_7_code 13 = .ok (.astore 4, 2) := by decide +kernel
theorem d_H_restsOn_15 : decode method_7_code 15 = .ok (.iconst 1, 1) := by decide +kernel
theorem d_H_restsOn_16 : decode method_7_code 16 = .ok (.ireturn, 1) := by decide +kernel
theorem d_H_restsOn_17 : decode method_7_code 17 = .ok (.iconst 0, 1) := by decide +kernel
theorem d_H_restsOn_18 : decode method_7_code 18 = .ok (.ireturn, 1) := by decide +kernel
theorem d_H_ring_0 : decode method_8_code 0 = .ok (.aload_n 2, 1) := by decide +kernel
theorem d_H_ring_1 : decode method_8_code 1 = .ok (.iconst 0, 1) := by decide +kernel
theorem d_H_ring_2 : decode method_8_code 2 = .ok (.aload_n 0, 1) := by decide +kernel
theorem d_H_ring_3 : decode method_8_code 3 = .ok (.iload_n 1, 1) := by decide +kernel
theorem d_H_ring_4 : decode method_8_code 4 = .ok (.invokevirtual 34, 3) := by decide +kernel
theorem d_H_ring_7 : decode method_8_code 7 = .ok (.i2l, 1) := by decide +kernel
theorem d_H_ring_8 : decode method_8_code 8 = .ok (.lastore, 1) := by decide +kernel
theorem d_H_ring_9 : decode method_8_code 9 = .ok (.goto 6, 3) := by decide +kernel
theorem d_H_ring_12 : decode method_8_code 12 = .ok (.astore_n 3, 1) := by decide +kernel
theorem d_H_ring_13 : decode method_8_code 13 = .ok (.iconst 1, 1) := by decide +kernel
theorem d_H_ring_14 : decode method_8_code 14 = .ok (.ireturn, 1) := by decide +kernel
theorem d_H_ring_15 : decode method_8_code 15 = .ok (.iconst 0, 1) := by decide +kernel
theorem d_H_ring_16 : decode method_8_code 16 = .ok (.ireturn, 1) := by decide +kernel
theorem d_H_lift_0 : decode method_9_code 0 = .ok (.aload_n 3, 1) := by decide +kernel
theorem d_H_lift_1 : decode method_9_code 1 = .ok (.iconst 0, 1) := by decide +kernel
theorem d_H_lift_2 : decode method_9_code 2 = .ok (.aload_n 0, 1) := by decide +kernel
theorem d_H_lift_3 : decode method_9_code 3 = .ok (.iload_n 1, 1) := by decide +kernel
theorem d_H_lift_4 : decode method_9_code 4 = .ok (.iload_n 2, 1) := by decide +kernel
theorem d_H_lift_5 : decode method_9_code 5 = .ok (.invokevirtual 37, 3) := by decide +kernel
theorem d_H_lift_8 : decode method_9_code 8 = .ok (.ifCond .eq 7, 3) := by decide +kernel
theorem d_H_lift_11 : decode method_9_code 11 = .ok (.lconst 1, 1) := by decide +kernel
theorem d_H_lift_12 : decode method_9_code 12 = .ok (.goto 4, 3) := by decide +kernel
theorem d_H_lift_15 : decode method_9_code 15 = .ok (.lconst 0, 1) := by decide +kernel
theorem d_H_lift_16 : decode method_9_code 16 = .ok (.lastore, 1) := by decide +kernel
theorem d_H_lift_17 : decode method_9_code 17 = .ok (.goto 7, 3) := by decide +kernel
theorem d_H_lift_20 : decode method_9_code 20 = .ok (.astore 4, 2) := by decide +kernel
theorem d_H_lift_22 : decode method_9_code 22 = .ok (.iconst 1, 1) := by decide +kernel
theorem d_H_lift_23 : decode method_9_code 23 = .ok (.ireturn, 1) := by decide +kernel
theorem d_H_lift_24 : decode method_9_code 24 = .ok (.iconst 0, 1) := by decide +kernel
theorem d_H_lift_25 : decode method_9_code 25 = .ok (.ireturn, 1) := by decide +kernel
theorem d_H_withdraw_0 : decode method_10_code 0 = .ok (.aload_n 3, 1) := by decide +kernel
theorem d_H_withdraw_1 : decode method_10_code 1 = .ok (.iconst 0, 1) := by decide +kernel
theorem d_H_withdraw_2 : decode method_10_code 2 = .ok (.aload_n 0, 1) := by decide +kernel
theorem d_H_withdraw_3 : decode method_10_code 3 = .ok (.iload_n 1, 1) := by decide +kernel
theorem d_H_withdraw_4 : decode method_10_code 4 = .ok (.iload_n 2, 1) := by decide +kernel
theorem d_H_withdraw_5 : decode method_10_code 5 = .ok (.invokevirtual 41, 3) := by decide +kernel
theorem d_H_withdraw_8 : decode method_10_code 8 = .ok (.i2l, 1) := by decide +kernel
theorem d_H_withdraw_9 : decode method_10_code 9 = .ok (.lastore, 1) := by decide +kernel
theorem d_H_withdraw_10 : decode method_10_code 10 = .ok (.goto 11, 3) := by decide +kernel
theorem d_H_withdraw_13 : decode method_10_code 13 = .ok (.astore 4, 2) := by decide +kernel
theorem d_H_withdraw_15 : decode method_10_code 15 = .ok (.iconst 1, 1) := by decide +kernel
theorem d_H_withdraw_16 : decode method_10_code 16 = .ok (.ireturn, 1) := by decide +kernel
theorem d_H_withdraw_17 : decode method_10_code 17 = .ok (.astore 4, 2) := by decide +kernel
theorem d_H_withdraw_19 : decode method_10_code 19 = .ok (.iconst 2, 1) := by decide +kernel
theorem d_H_withdraw_20 : decode method_10_code 20 = .ok (.ireturn, 1) := by decide +kernel
theorem d_H_withdraw_21 : decode method_10_code 21 = .ok (.iconst 0, 1) := by decide +kernel
theorem d_H_withdraw_22 : decode method_10_code 22 = .ok (.ireturn, 1) := by decide +kernel
theorem d_H_opinion_0 : decode method_11_code 0 = .ok (.aload 6, 2) := by decide +kernel
theorem d_H_opinion_2 : decode method_11_code 2 = .ok (.iconst 0, 1) := by decide +kernel
theorem d_H_opinion_3 : decode method_11_code 3 = .ok (.aload_n 0, 1) := by decide +kernel
theorem d_H_opinion_4 : decode method_11_code 4 = .ok (.iload_n 1, 1) := by decide +kernel
theorem d_H_opinion_5 : decode method_11_code 5 = .ok (.iload_n 2, 1) := by decide +kernel
theorem d_H_opinion_6 : decode method_11_code 6 = .ok (.iload_n 3, 1) := by decide +kernel
theorem d_H_opinion_7 : decode method_11_code 7 = .ok (.iload 4, 2) := by decide +kernel
theorem d_H_opinion_9 : decode method_11_code 9 = .ok (.iload 5, 2) := by decide +kernel
theorem d_H_opinion_11 : decode method_11_code 11 = .ok (.invokevirtual 44, 3) := by decide +kernel
theorem d_H_opinion_14 : decode method_11_code 14 = .ok (.i2l, 1) := by decide +kernel
theorem d_H_opinion_15 : decode method_11_code 15 = .ok (.lastore, 1) := by decide +kernel
theorem d_H_opinion_16 : decode method_11_code 16 = .ok (.goto 15, 3) := by decide +kernel
theorem d_H_opinion_19 : decode method_11_code 19 = .ok (.astore 7, 2) := by decide +kernel
theorem d_H_opinion_21 : decode method_11_code 21 = .ok (.iconst 1, 1) := by decide +kernel
theorem d_H_opinion_22 : decode method_11_code 22 = .ok (.ireturn, 1) := by decide +kernel
theorem d_H_opinion_23 : decode method_11_code 23 = .ok (.astore 7, 2) := by decide +kernel
theorem d_H_opinion_25 : decode method_11_code 25 = .ok (.iconst 2, 1) := by decide +kernel
theorem d_H_opinion_26 : decode method_11_code 26 = .ok (.ireturn, 1) := by decide +kernel
theorem d_H_opinion_27 : decode method_11_code 27 = .ok (.astore 7, 2) := by decide +kernel
theorem d_H_opinion_29 : decode method_11_code 29 = .ok (.iconst 3, 1) := by decide +kernel
theorem d_H_opinion_30 : decode method_11_code 30 = .ok (.ireturn, 1) := by decide +kernel
theorem d_H_opinion_31 : decode method_11_code 31 = .ok (.iconst 0, 1) := by decide +kernel
theorem d_H_opinion_32 : decode method_11_code 32 = .ok (.ireturn, 1) := by decide +kernel
theorem d_H_rule_0 : decode method_12_code 0 = .ok (.aload_n 3, 1) := by decide +kernel
theorem d_H_rule_1 : decode method_12_code 1 = .ok (.iconst 0, 1) := by decide +kernel
theorem d_H_rule_2 : decode method_12_code 2 = .ok (.aload_n 0, 1) := by decide +kernel
theorem d_H_rule_3 : decode method_12_code 3 = .ok (.iload_n 1, 1) := by decide +kernel
theorem d_H_rule_4 : decode method_12_code 4 = .ok (.iload_n 2, 1) := by decide +kernel
theorem d_H_rule_5 : decode method_12_code 5 = .ok (.invokevirtual 48, 3) := by decide +kernel
theorem d_H_rule_8 : decode method_12_code 8 = .ok (.i2l, 1) := by decide +kernel
theorem d_H_rule_9 : decode method_12_code 9 = .ok (.lastore, 1) := by decide +kernel
theorem d_H_rule_10 : decode method_12_code 10 = .ok (.goto 11, 3) := by decide +kernel
theorem d_H_rule_13 : decode method_12_code 13 = .ok (.astore 4, 2) := by decide +kernel
theorem d_H_rule_15 : decode method_12_code 15 = .ok (.iconst 1, 1) := by decide +kernel
theorem d_H_rule_16 : decode method_12_code 16 = .ok (.ireturn, 1) := by decide +kernel
theorem d_H_rule_17 : decode method_12_code 17 = .ok (.astore 4, 2) := by decide +kernel
theorem d_H_rule_19 : decode method_12_code 19 = .ok (.iconst 2, 1) := by decide +kernel
theorem d_H_rule_20 : decode method_12_code 20 = .ok (.ireturn, 1) := by decide +kernel
theorem d_H_rule_21 : decode method_12_code 21 = .ok (.iconst 0, 1) := by decide +kernel
theorem d_H_rule_22 : decode method_12_code 22 = .ok (.ireturn, 1) := by decide +kernel
theorem d_H_agreed_0 : decode method_13_code 0 = .ok (.aload_n 3, 1) := by decide +kernel
theorem d_H_agreed_1 : decode method_13_code 1 = .ok (.iconst 0, 1) := by decide +kernel
theorem d_H_agreed_2 : decode method_13_code 2 = .ok (.aload_n 0, 1) := by decide +kernel
theorem d_H_agreed_3 : decode method_13_code 3 = .ok (.iload_n 1, 1) := by decide +kernel
theorem d_H_agreed_4 : decode method_13_code 4 = .ok (.iload_n 2, 1) := by decide +kernel
theorem d_H_agreed_5 : decode method_13_code 5 = .ok (.invokevirtual 51, 3) := by decide +kernel
theorem d_H_agreed_8 : decode method_13_code 8 = .ok (.i2l, 1) := by decide +kernel
theorem d_H_agreed_9 : decode method_13_code 9 = .ok (.lastore, 1) := by decide +kernel
theorem d_H_agreed_10 : decode method_13_code 10 = .ok (.goto 11, 3) := by decide +kernel
theorem d_H_agreed_13 : decode method_13_code 13 = .ok (.astore 4, 2) := by decide +kernel
theorem d_H_agreed_15 : decode method_13_code 15 = .ok (.iconst 1, 1) := by decide +kernel
theorem d_H_agreed_16 : decode method_13_code 16 = .ok (.ireturn, 1) := by decide +kernel
theorem d_H_agreed_17 : decode method_13_code 17 = .ok (.astore 4, 2) := by decide +kernel
theorem d_H_agreed_19 : decode method_13_code 19 = .ok (.iconst 2, 1) := by decide +kernel
theorem d_H_agreed_20 : decode method_13_code 20 = .ok (.ireturn, 1) := by decide +kernel
theorem d_H_agreed_21 : decode method_13_code 21 = .ok (.iconst 0, 1) := by decide +kernel
theorem d_H_agreed_22 : decode method_13_code 22 = .ok (.ireturn, 1) := by decide +kernel
theorem d_H_dissent_0 : decode method_14_code 0 = .ok (.aload 4, 2) := by decide +kernel
theorem d_H_dissent_2 : decode method_14_code 2 = .ok (.iconst 0, 1) := by decide +kernel
theorem d_H_dissent_3 : decode method_14_code 3 = .ok (.aload_n 0, 1) := by decide +kernel
theorem d_H_dissent_4 : decode method_14_code 4 = .ok (.iload_n 1, 1) := by decide +kernel
theorem d_H_dissent_5 : decode method_14_code 5 = .ok (.iload_n 2, 1) := by decide +kernel
theorem d_H_dissent_6 : decode method_14_code 6 = .ok (.iload_n 3, 1) := by decide +kernel
theorem d_H_dissent_7 : decode method_14_code 7 = .ok (.invokevirtual 54, 3) := by decide +kernel
theorem d_H_dissent_10 : decode method_14_code 10 = .ok (.i2l, 1) := by decide +kernel
theorem d_H_dissent_11 : decode method_14_code 11 = .ok (.lastore, 1) := by decide +kernel
theorem d_H_dissent_12 : decode method_14_code 12 = .ok (.goto 11, 3) := by decide +kernel
theorem d_H_dissent_15 : decode method_14_code 15 = .ok (.astore 5, 2) := by decide +kernel
theorem d_H_dissent_17 : decode method_14_code 17 = .ok (.iconst 1, 1) := by decide +kernel
theorem d_H_dissent_18 : decode method_14_code 18 = .ok (.ireturn, 1) := by decide +kernel
theorem d_H_dissent_19 : decode method_14_code 19 = .ok (.astore 5, 2) := by decide +kernel
theorem d_H_dissent_21 : decode method_14_code 21 = .ok (.iconst 2, 1) := by decide +kernel
theorem d_H_dissent_22 : decode method_14_code 22 = .ok (.ireturn, 1) := by decide +kernel
theorem d_H_dissent_23 : decode method_14_code 23 = .ok (.iconst 0, 1) := by decide +kernel
theorem d_H_dissent_24 : decode method_14_code 24 = .ok (.ireturn, 1) := by decide +kernel
theorem d_H_held_0 : decode method_15_code 0 = .ok (.aload_n 3, 1) := by decide +kernel
theorem d_H_held_1 : decode method_15_code 1 = .ok (.iconst 0, 1) := by decide +kernel
theorem d_H_held_2 : decode method_15_code 2 = .ok (.aload_n 0, 1) := by decide +kernel
theorem d_H_held_3 : decode method_15_code 3 = .ok (.iload_n 1, 1) := by decide +kernel
theorem d_H_held_4 : decode method_15_code 4 = .ok (.iload_n 2, 1) := by decide +kernel
theorem d_H_held_5 : decode method_15_code 5 = .ok (.invokevirtual 58, 3) := by decide +kernel
theorem d_H_held_8 : decode method_15_code 8 = .ok (.ifCond .eq 7, 3) := by decide +kernel
theorem d_H_held_11 : decode method_15_code 11 = .ok (.lconst 1, 1) := by decide +kernel
theorem d_H_held_12 : decode method_15_code 12 = .ok (.goto 4, 3) := by decide +kernel
theorem d_H_held_15 : decode method_15_code 15 = .ok (.lconst 0, 1) := by decide +kernel
theorem d_H_held_16 : decode method_15_code 16 = .ok (.lastore, 1) := by decide +kernel
theorem d_H_held_17 : decode method_15_code 17 = .ok (.goto 11, 3) := by decide +kernel
theorem d_H_held_20 : decode method_15_code 20 = .ok (.astore 4, 2) := by decide +kernel
theorem d_H_held_22 : decode method_15_code 22 = .ok (.iconst 1, 1) := by decide +kernel
theorem d_H_held_23 : decode method_15_code 23 = .ok (.ireturn, 1) := by decide +kernel
theorem d_H_held_24 : decode method_15_code 24 = .ok (.astore 4, 2) := by decide +kernel
theorem d_H_held_26 : decode method_15_code 26 = .ok (.iconst 2, 1) := by decide +kernel
theorem d_H_held_27 : decode method_15_code 27 = .ok (.ireturn, 1) := by decide +kernel
theorem d_H_held_28 : decode method_15_code 28 = .ok (.iconst 0, 1) := by decide +kernel
theorem d_H_held_29 : decode method_15_code 29 = .ok (.ireturn, 1) := by decide +kernel
theorem d_H_opened_0 : decode method_16_code 0 = .ok (.aload 4, 2) := by decide +kernel
theorem d_H_opened_2 : decode method_16_code 2 = .ok (.iconst 0, 1) := by decide +kernel
theorem d_H_opened_3 : decode method_16_code 3 = .ok (.aload_n 0, 1) := by decide +kernel
theorem d_H_opened_4 : decode method_16_code 4 = .ok (.iload_n 1, 1) := by decide +kernel
theorem d_H_opened_5 : decode method_16_code 5 = .ok (.iload_n 2, 1) := by decide +kernel
theorem d_H_opened_6 : decode method_16_code 6 = .ok (.iload_n 3, 1) := by decide +kernel
theorem d_H_opened_7 : decode method_16_code 7 = .ok (.invokevirtual 61, 3) := by decide +kernel
theorem d_H_opened_10 : decode method_16_code 10 = .ok (.i2l, 1) := by decide +kernel
theorem d_H_opened_11 : decode method_16_code 11 = .ok (.lastore, 1) := by decide +kernel
theorem d_H_opened_12 : decode method_16_code 12 = .ok (.goto 11, 3) := by decide +kernel
theorem d_H_opened_15 : decode method_16_code 15 = .ok (.astore 5, 2) := by decide +kernel
theorem d_H_opened_17 : decode method_16_code 17 = .ok (.iconst 1, 1) := by decide +kernel
theorem d_H_opened_18 : decode method_16_code 18 = .ok (.ireturn, 1) := by decide +kernel
theorem d_H_opened_19 : decode method_16_code 19 = .ok (.astore 5, 2) := by decide +kernel
theorem d_H_opened_21 : decode method_16_code 21 = .ok (.iconst 2, 1) := by decide +kernel
theorem d_H_opened_22 : decode method_16_code 22 = .ok (.ireturn, 1) := by decide +kernel
theorem d_H_opened_23 : decode method_16_code 23 = .ok (.iconst 0, 1) := by decide +kernel
theorem d_H_opened_24 : decode method_16_code 24 = .ok (.ireturn, 1) := by decide +kernel
theorem d_H_quote_0 : decode method_17_code 0 = .ok (.aload_n 3, 1) := by decide +kernel
theorem d_H_quote_1 : decode method_17_code 1 = .ok (.iconst 0, 1) := by decide +kernel
theorem d_H_quote_2 : decode method_17_code 2 = .ok (.aload_n 0, 1) := by decide +kernel
theorem d_H_quote_3 : decode method_17_code 3 = .ok (.iload_n 1, 1) := by decide +kernel
theorem d_H_quote_4 : decode method_17_code 4 = .ok (.iload_n 2, 1) := by decide +kernel
theorem d_H_quote_5 : decode method_17_code 5 = .ok (.invokevirtual 64, 3) := by decide +kernel
theorem d_H_quote_8 : decode method_17_code 8 = .ok (.i2l, 1) := by decide +kernel
theorem d_H_quote_9 : decode method_17_code 9 = .ok (.lastore, 1) := by decide +kernel
theorem d_H_quote_10 : decode method_17_code 10 = .ok (.goto 7, 3) := by decide +kernel
theorem d_H_quote_13 : decode method_17_code 13 = .ok (.astore 4, 2) := by decide +kernel
theorem d_H_quote_15 : decode method_17_code 15 = .ok (.iconst 1, 1) := by decide +kernel
theorem d_H_quote_16 : decode method_17_code 16 = .ok (.ireturn, 1) := by decide +kernel
theorem d_H_quote_17 : decode method_17_code 17 = .ok (.iconst 0, 1) := by decide +kernel
theorem d_H_quote_18 : decode method_17_code 18 = .ok (.ireturn, 1) := by decide +kernel
theorem d_H_form_0 : decode method_18_code 0 = .ok (.aload_n 2, 1) := by decide +kernel
theorem d_H_form_1 : decode method_18_code 1 = .ok (.iconst 0, 1) := by decide +kernel
theorem d_H_form_2 : decode method_18_code 2 = .ok (.aload_n 0, 1) := by decide +kernel
theorem d_H_form_3 : decode method_18_code 3 = .ok (.iload_n 1, 1) := by decide +kernel
theorem d_H_form_4 : decode method_18_code 4 = .ok (.invokevirtual 67, 3) := by decide +kernel
theorem d_H_form_7 : decode method_18_code 7 = .ok (.i2l, 1) := by decide +kernel
theorem d_H_form_8 : decode method_18_code 8 = .ok (.lastore, 1) := by decide +kernel
theorem d_H_form_9 : decode method_18_code 9 = .ok (.goto 6, 3) := by decide +kernel
theorem d_H_form_12 : decode method_18_code 12 = .ok (.astore_n 3, 1) := by decide +kernel
theorem d_H_form_13 : decode method_18_code 13 = .ok (.iconst 1, 1) := by decide +kernel
theorem d_H_form_14 : decode method_18_code 14 = .ok (.ireturn, 1) := by decide +kernel
theorem d_H_form_15 : decode method_18_code 15 = .ok (.iconst 0, 1) := by decide +kernel
theorem d_H_form_16 : decode method_18_code 16 = .ok (.ireturn, 1) := by decide +kernel
theorem d_H_cite_0 : decode method_19_code 0 = .ok (.aload 4, 2) := by decide +kernel
theorem d_H_cite_2 : decode method_19_code 2 = .ok (.iconst 0, 1) := by decide +kernel
theorem d_H_cite_3 : decode method_19_code 3 = .ok (.aload_n 0, 1) := by decide +kernel
theorem d_H_cite_4 : decode method_19_code 4 = .ok (.iload_n 1, 1) := by decide +kernel
theorem d_H_cite_5 : decode method_19_code 5 = .ok (.iload_n 2, 1) := by decide +kernel
theorem d_H_cite_6 : decode method_19_code 6 = .ok (.iload_n 3, 1) := by decide +kernel
theorem d_H_cite_7 : decode method_19_code 7 = .ok (.invokevirtual 70, 3) := by decide +kernel
theorem d_H_cite_10 : decode method_19_code 10 = .ok (.i2l, 1) := by decide +kernel
theorem d_H_cite_11 : decode method_19_code 11 = .ok (.lastore, 1) := by decide +kernel
theorem d_H_cite_12 : decode method_19_code 12 = .ok (.goto 7, 3) := by decide +kernel
theorem d_H_cite_15 : decode method_19_code 15 = .ok (.astore 5, 2) := by decide +kernel
theorem d_H_cite_17 : decode method_19_code 17 = .ok (.iconst 1, 1) := by decide +kernel
theorem d_H_cite_18 : decode method_19_code 18 = .ok (.ireturn, 1) := by decide +kernel
theorem d_H_cite_19 : decode method_19_code 19 = .ok (.iconst 0, 1) := by decide +kernel
theorem d_H_cite_20 : decode method_19_code 20 = .ok (.ireturn, 1) := by decide +kernel
theorem d_H_count_0 : decode method_20_code 0 = .ok (.aload_n 2, 1) := by decide +kernel
theorem d_H_count_1 : decode method_20_code 1 = .ok (.iconst 0, 1) := by decide +kernel
theorem d_H_count_2 : decode method_20_code 2 = .ok (.aload_n 0, 1) := by decide +kernel
theorem d_H_count_3 : decode method_20_code 3 = .ok (.iload_n 1, 1) := by decide +kernel
theorem d_H_count_4 : decode method_20_code 4 = .ok (.invokevirtual 73, 3) := by decide +kernel
theorem d_H_count_7 : decode method_20_code 7 = .ok (.i2l, 1) := by decide +kernel
theorem d_H_count_8 : decode method_20_code 8 = .ok (.lastore, 1) := by decide +kernel
theorem d_H_count_9 : decode method_20_code 9 = .ok (.goto 6, 3) := by decide +kernel
theorem d_H_count_12 : decode method_20_code 12 = .ok (.astore_n 3, 1) := by decide +kernel
theorem d_H_count_13 : decode method_20_code 13 = .ok (.iconst 1, 1) := by decide +kernel
theorem d_H_count_14 : decode method_20_code 14 = .ok (.ireturn, 1) := by decide +kernel
theorem d_H_count_15 : decode method_20_code 15 = .ok (.iconst 0, 1) := by decide +kernel
theorem d_H_count_16 : decode method_20_code 16 = .ok (.ireturn, 1) := by decide +kernel
