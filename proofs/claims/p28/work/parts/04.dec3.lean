/-! decode rows (printed by the kit's program) -/
theorem dL_cell_0 : decode cL_cell 0 = .ok (.iload_n 1, 1) := by decide +kernel
theorem dL_cell_1 : decode cL_cell 1 = .ok (.aload_n 0, 1) := by decide +kernel
theorem dL_cell_2 : decode cL_cell 2 = .ok (.arraylength, 1) := by decide +kernel
theorem dL_cell_3 : decode cL_cell 3 = .ok (.if_icmp .ge 9, 3) := by decide +kernel
theorem dL_cell_6 : decode cL_cell 6 = .ok (.aload_n 0, 1) := by decide +kernel
theorem dL_cell_7 : decode cL_cell 7 = .ok (.iload_n 1, 1) := by decide +kernel
theorem dL_cell_8 : decode cL_cell 8 = .ok (.iaload, 1) := by decide +kernel
theorem dL_cell_9 : decode cL_cell 9 = .ok (.goto 12, 3) := by decide +kernel
theorem dL_cell_12 : decode cL_cell 12 = .ok (.ldc 7, 2) := by decide +kernel
theorem dL_cell_14 : decode cL_cell 14 = .ok (.iload_n 1, 1) := by decide +kernel
theorem dL_cell_15 : decode cL_cell 15 = .ok (.iconst 1, 1) := by decide +kernel
theorem dL_cell_16 : decode cL_cell 16 = .ok (.iadd, 1) := by decide +kernel
theorem dL_cell_17 : decode cL_cell 17 = .ok (.imul, 1) := by decide +kernel
theorem dL_cell_18 : decode cL_cell 18 = .ok (.ldc 8, 2) := by decide +kernel
theorem dL_cell_20 : decode cL_cell 20 = .ok (.iadd, 1) := by decide +kernel
theorem dL_cell_21 : decode cL_cell 21 = .ok (.ireturn, 1) := by decide +kernel
theorem dL_low_0 : decode cL_low 0 = .ok (.iload_n 0, 1) := by decide +kernel
theorem dL_low_1 : decode cL_low 1 = .ok (.ldc 9, 2) := by decide +kernel
theorem dL_low_3 : decode cL_low 3 = .ok (.iand, 1) := by decide +kernel
theorem dL_low_4 : decode cL_low 4 = .ok (.iload_n 1, 1) := by decide +kernel
theorem dL_low_5 : decode cL_low 5 = .ok (.irem, 1) := by decide +kernel
theorem dL_low_6 : decode cL_low 6 = .ok (.ireturn, 1) := by decide +kernel
theorem dL_table_0 : decode cL_table 0 = .ok (.aload_n 1, 1) := by decide +kernel
theorem dL_table_1 : decode cL_table 1 = .ok (.bipush 10, 2) := by decide +kernel
theorem dL_table_3 : decode cL_table 3 = .ok (.iload_n 0, 1) := by decide +kernel
theorem dL_table_4 : decode cL_table 4 = .ok (.imul, 1) := by decide +kernel
theorem dL_table_5 : decode cL_table 5 = .ok (.iaload, 1) := by decide +kernel
theorem dL_table_6 : decode cL_table 6 = .ok (.ifCond .le 17, 3) := by decide +kernel
theorem dL_table_9 : decode cL_table 9 = .ok (.aload_n 1, 1) := by decide +kernel
theorem dL_table_10 : decode cL_table 10 = .ok (.bipush 10, 2) := by decide +kernel
theorem dL_table_12 : decode cL_table 12 = .ok (.iload_n 0, 1) := by decide +kernel
theorem dL_table_13 : decode cL_table 13 = .ok (.imul, 1) := by decide +kernel
theorem dL_table_14 : decode cL_table 14 = .ok (.iaload, 1) := by decide +kernel
theorem dL_table_15 : decode cL_table 15 = .ok (.iconst 4, 1) := by decide +kernel
theorem dL_table_16 : decode cL_table 16 = .ok (.if_icmp .ge 7, 3) := by decide +kernel
theorem dL_table_19 : decode cL_table 19 = .ok (.iconst 1, 1) := by decide +kernel
theorem dL_table_20 : decode cL_table 20 = .ok (.goto 4, 3) := by decide +kernel
theorem dL_table_23 : decode cL_table 23 = .ok (.iconst 0, 1) := by decide +kernel
theorem dL_table_24 : decode cL_table 24 = .ok (.ireturn, 1) := by decide +kernel
theorem dL_index_0 : decode cL_index 0 = .ok (.iconst 1, 1) := by decide +kernel
theorem dL_index_1 : decode cL_index 1 = .ok (.aload_n 3, 1) := by decide +kernel
theorem dL_index_2 : decode cL_index 2 = .ok (.bipush 10, 2) := by decide +kernel
theorem dL_index_4 : decode cL_index 4 = .ok (.iload_n 0, 1) := by decide +kernel
theorem dL_index_5 : decode cL_index 5 = .ok (.imul, 1) := by decide +kernel
theorem dL_index_6 : decode cL_index 6 = .ok (.iconst 1, 1) := by decide +kernel
theorem dL_index_7 : decode cL_index 7 = .ok (.iadd, 1) := by decide +kernel
theorem dL_index_8 : decode cL_index 8 = .ok (.iaload, 1) := by decide +kernel
theorem dL_index_9 : decode cL_index 9 = .ok (.ishl, 1) := by decide +kernel
theorem dL_index_10 : decode cL_index 10 = .ok (.istore 4, 2) := by decide +kernel
theorem dL_index_12 : decode cL_index 12 = .ok (.aload_n 3, 1) := by decide +kernel
theorem dL_index_13 : decode cL_index 13 = .ok (.bipush 10, 2) := by decide +kernel
theorem dL_index_15 : decode cL_index 15 = .ok (.iload_n 0, 1) := by decide +kernel
theorem dL_index_16 : decode cL_index 16 = .ok (.imul, 1) := by decide +kernel
theorem dL_index_17 : decode cL_index 17 = .ok (.iaload, 1) := by decide +kernel
theorem dL_index_18 : decode cL_index 18 = .ok (.iconst 1, 1) := by decide +kernel
theorem dL_index_19 : decode cL_index 19 = .ok (.if_icmp .ne 7, 3) := by decide +kernel
theorem dL_index_22 : decode cL_index 22 = .ok (.iload_n 1, 1) := by decide +kernel
theorem dL_index_23 : decode cL_index 23 = .ok (.goto 24, 3) := by decide +kernel
theorem dL_index_26 : decode cL_index 26 = .ok (.aload_n 3, 1) := by decide +kernel
theorem dL_index_27 : decode cL_index 27 = .ok (.bipush 10, 2) := by decide +kernel
theorem dL_index_29 : decode cL_index 29 = .ok (.iload_n 0, 1) := by decide +kernel
theorem dL_index_30 : decode cL_index 30 = .ok (.imul, 1) := by decide +kernel
theorem dL_index_31 : decode cL_index 31 = .ok (.iaload, 1) := by decide +kernel
theorem dL_index_32 : decode cL_index 32 = .ok (.iconst 2, 1) := by decide +kernel
theorem dL_index_33 : decode cL_index 33 = .ok (.if_icmp .ne 9, 3) := by decide +kernel
theorem dL_index_36 : decode cL_index 36 = .ok (.aload_n 2, 1) := by decide +kernel
theorem dL_index_37 : decode cL_index 37 = .ok (.iconst 3, 1) := by decide +kernel
theorem dL_index_38 : decode cL_index 38 = .ok (.iaload, 1) := by decide +kernel
theorem dL_index_39 : decode cL_index 39 = .ok (.goto 8, 3) := by decide +kernel
theorem dL_index_42 : decode cL_index 42 = .ok (.iload_n 1, 1) := by decide +kernel
theorem dL_index_43 : decode cL_index 43 = .ok (.aload_n 2, 1) := by decide +kernel
theorem dL_index_44 : decode cL_index 44 = .ok (.iconst 3, 1) := by decide +kernel
theorem dL_index_45 : decode cL_index 45 = .ok (.iaload, 1) := by decide +kernel
theorem dL_index_46 : decode cL_index 46 = .ok (.ixor, 1) := by decide +kernel
theorem dL_index_47 : decode cL_index 47 = .ok (.istore 5, 2) := by decide +kernel
theorem dL_index_49 : decode cL_index 49 = .ok (.iload 5, 2) := by decide +kernel
theorem dL_index_51 : decode cL_index 51 = .ok (.iload 4, 2) := by decide +kernel
theorem dL_index_53 : decode cL_index 53 = .ok (.iconst 1, 1) := by decide +kernel
theorem dL_index_54 : decode cL_index 54 = .ok (.isub, 1) := by decide +kernel
theorem dL_index_55 : decode cL_index 55 = .ok (.iand, 1) := by decide +kernel
theorem dL_index_56 : decode cL_index 56 = .ok (.ireturn, 1) := by decide +kernel
theorem dL_in_0 : decode cL_in 0 = .ok (.aload_n 1, 1) := by decide +kernel
theorem dL_in_1 : decode cL_in 1 = .ok (.bipush 10, 2) := by decide +kernel
theorem dL_in_3 : decode cL_in 3 = .ok (.iload_n 0, 1) := by decide +kernel
theorem dL_in_4 : decode cL_in 4 = .ok (.imul, 1) := by decide +kernel
theorem dL_in_5 : decode cL_in 5 = .ok (.iconst 3, 1) := by decide +kernel
theorem dL_in_6 : decode cL_in 6 = .ok (.iadd, 1) := by decide +kernel
theorem dL_in_7 : decode cL_in 7 = .ok (.iaload, 1) := by decide +kernel
theorem dL_in_8 : decode cL_in 8 = .ok (.ifCond .lt 18, 3) := by decide +kernel
theorem dL_in_11 : decode cL_in 11 = .ok (.aload_n 1, 1) := by decide +kernel
theorem dL_in_12 : decode cL_in 12 = .ok (.bipush 10, 2) := by decide +kernel
theorem dL_in_14 : decode cL_in 14 = .ok (.iload_n 0, 1) := by decide +kernel
theorem dL_in_15 : decode cL_in 15 = .ok (.imul, 1) := by decide +kernel
theorem dL_in_16 : decode cL_in 16 = .ok (.iconst 2, 1) := by decide +kernel
theorem dL_in_17 : decode cL_in 17 = .ok (.iadd, 1) := by decide +kernel
theorem dL_in_18 : decode cL_in 18 = .ok (.iaload, 1) := by decide +kernel
theorem dL_in_19 : decode cL_in 19 = .ok (.ifCond .le 7, 3) := by decide +kernel
theorem dL_in_22 : decode cL_in 22 = .ok (.iconst 1, 1) := by decide +kernel
theorem dL_in_23 : decode cL_in 23 = .ok (.goto 4, 3) := by decide +kernel
theorem dL_in_26 : decode cL_in 26 = .ok (.iconst 0, 1) := by decide +kernel
theorem dL_in_27 : decode cL_in 27 = .ok (.ireturn, 1) := by decide +kernel
theorem dL_says_0 : decode cL_says 0 = .ok (.aload_n 3, 1) := by decide +kernel
theorem dL_says_1 : decode cL_says 1 = .ok (.bipush 10, 2) := by decide +kernel
theorem dL_says_3 : decode cL_says 3 = .ok (.iload_n 0, 1) := by decide +kernel
theorem dL_says_4 : decode cL_says 4 = .ok (.imul, 1) := by decide +kernel
theorem dL_says_5 : decode cL_says 5 = .ok (.iaload, 1) := by decide +kernel
theorem dL_says_6 : decode cL_says 6 = .ok (.ifCond .ne 12, 3) := by decide +kernel
theorem dL_says_9 : decode cL_says 9 = .ok (.aload_n 3, 1) := by decide +kernel
theorem dL_says_10 : decode cL_says 10 = .ok (.bipush 10, 2) := by decide +kernel
theorem dL_says_12 : decode cL_says 12 = .ok (.iload_n 0, 1) := by decide +kernel
theorem dL_says_13 : decode cL_says 13 = .ok (.imul, 1) := by decide +kernel
theorem dL_says_14 : decode cL_says 14 = .ok (.iconst 1, 1) := by decide +kernel
theorem dL_says_15 : decode cL_says 15 = .ok (.iadd, 1) := by decide +kernel
theorem dL_says_16 : decode cL_says 16 = .ok (.iaload, 1) := by decide +kernel
theorem dL_says_17 : decode cL_says 17 = .ok (.ireturn, 1) := by decide +kernel
theorem dL_says_18 : decode cL_says 18 = .ok (.aload_n 3, 1) := by decide +kernel
theorem dL_says_19 : decode cL_says 19 = .ok (.bipush 10, 2) := by decide +kernel
theorem dL_says_21 : decode cL_says 21 = .ok (.iload_n 0, 1) := by decide +kernel
theorem dL_says_22 : decode cL_says 22 = .ok (.imul, 1) := by decide +kernel
theorem dL_says_23 : decode cL_says 23 = .ok (.iaload, 1) := by decide +kernel
theorem dL_says_24 : decode cL_says 24 = .ok (.iconst 4, 1) := by decide +kernel
theorem dL_says_25 : decode cL_says 25 = .ok (.if_icmp .ge 21, 3) := by decide +kernel
theorem dL_says_28 : decode cL_says 28 = .ok (.aload 4, 2) := by decide +kernel
theorem dL_says_30 : decode cL_says 30 = .ok (.bipush 8, 2) := by decide +kernel
theorem dL_says_32 : decode cL_says 32 = .ok (.iload_n 0, 1) := by decide +kernel
theorem dL_says_33 : decode cL_says 33 = .ok (.imul, 1) := by decide +kernel
theorem dL_says_34 : decode cL_says 34 = .ok (.iload_n 0, 1) := by decide +kernel
theorem dL_says_35 : decode cL_says 35 = .ok (.iload_n 1, 1) := by decide +kernel
theorem dL_says_36 : decode cL_says 36 = .ok (.aload_n 2, 1) := by decide +kernel
theorem dL_says_37 : decode cL_says 37 = .ok (.aload_n 3, 1) := by decide +kernel
theorem dL_says_38 : decode cL_says 38 = .ok (.invokestatic 10, 3) := by decide +kernel
theorem dL_says_41 : decode cL_says 41 = .ok (.iadd, 1) := by decide +kernel
theorem dL_says_42 : decode cL_says 42 = .ok (.iaload, 1) := by decide +kernel
theorem dL_says_43 : decode cL_says 43 = .ok (.iconst 2, 1) := by decide +kernel
theorem dL_says_44 : decode cL_says 44 = .ok (.idiv, 1) := by decide +kernel
theorem dL_says_45 : decode cL_says 45 = .ok (.ireturn, 1) := by decide +kernel
theorem dL_says_46 : decode cL_says 46 = .ok (.iconst 0, 1) := by decide +kernel
theorem dL_says_47 : decode cL_says 47 = .ok (.istore 5, 2) := by decide +kernel
theorem dL_says_49 : decode cL_says 49 = .ok (.iconst 0, 1) := by decide +kernel
theorem dL_says_50 : decode cL_says 50 = .ok (.istore 6, 2) := by decide +kernel
theorem dL_says_52 : decode cL_says 52 = .ok (.iconst 0, 1) := by decide +kernel
theorem dL_says_53 : decode cL_says 53 = .ok (.istore 7, 2) := by decide +kernel
theorem dL_says_55 : decode cL_says 55 = .ok (.iload 7, 2) := by decide +kernel
theorem dL_says_57 : decode cL_says 57 = .ok (.iconst 5, 1) := by decide +kernel
theorem dL_says_58 : decode cL_says 58 = .ok (.if_icmp .ge 77, 3) := by decide +kernel
theorem dL_says_61 : decode cL_says 61 = .ok (.aload_n 3, 1) := by decide +kernel
theorem dL_says_62 : decode cL_says 62 = .ok (.bipush 10, 2) := by decide +kernel
theorem dL_says_64 : decode cL_says 64 = .ok (.iload 7, 2) := by decide +kernel
theorem dL_says_66 : decode cL_says 66 = .ok (.imul, 1) := by decide +kernel
theorem dL_says_67 : decode cL_says 67 = .ok (.iaload, 1) := by decide +kernel
theorem dL_says_68 : decode cL_says 68 = .ok (.iconst 4, 1) := by decide +kernel
theorem dL_says_69 : decode cL_says 69 = .ok (.if_icmp .eq 60, 3) := by decide +kernel
theorem dL_says_72 : decode cL_says 72 = .ok (.iload 7, 2) := by decide +kernel
theorem dL_says_74 : decode cL_says 74 = .ok (.aload_n 3, 1) := by decide +kernel
theorem dL_says_75 : decode cL_says 75 = .ok (.invokestatic 16, 3) := by decide +kernel
theorem dL_says_78 : decode cL_says 78 = .ok (.ifCond .ne 6, 3) := by decide +kernel
theorem dL_says_81 : decode cL_says 81 = .ok (.goto 48, 3) := by decide +kernel
theorem dL_says_84 : decode cL_says 84 = .ok (.iload 7, 2) := by decide +kernel
theorem dL_says_86 : decode cL_says 86 = .ok (.iload_n 1, 1) := by decide +kernel
theorem dL_says_87 : decode cL_says 87 = .ok (.aload_n 2, 1) := by decide +kernel
theorem dL_says_88 : decode cL_says 88 = .ok (.aload_n 3, 1) := by decide +kernel
theorem dL_says_89 : decode cL_says 89 = .ok (.aload 4, 2) := by decide +kernel
theorem dL_says_91 : decode cL_says 91 = .ok (.invokestatic 20, 3) := by decide +kernel
theorem dL_says_94 : decode cL_says 94 = .ok (.iconst 1, 1) := by decide +kernel
theorem dL_says_95 : decode cL_says 95 = .ok (.if_icmp .ne 20, 3) := by decide +kernel
theorem dL_says_98 : decode cL_says 98 = .ok (.iload 5, 2) := by decide +kernel
theorem dL_says_100 : decode cL_says 100 = .ok (.aload_n 3, 1) := by decide +kernel
theorem dL_says_101 : decode cL_says 101 = .ok (.bipush 10, 2) := by decide +kernel
theorem dL_says_103 : decode cL_says 103 = .ok (.iload 7, 2) := by decide +kernel
theorem dL_says_105 : decode cL_says 105 = .ok (.imul, 1) := by decide +kernel
theorem dL_says_106 : decode cL_says 106 = .ok (.iconst 2, 1) := by decide +kernel
theorem dL_says_107 : decode cL_says 107 = .ok (.iadd, 1) := by decide +kernel
theorem dL_says_108 : decode cL_says 108 = .ok (.iaload, 1) := by decide +kernel
theorem dL_says_109 : decode cL_says 109 = .ok (.iadd, 1) := by decide +kernel
theorem dL_says_110 : decode cL_says 110 = .ok (.istore 5, 2) := by decide +kernel
theorem dL_says_112 : decode cL_says 112 = .ok (.goto 17, 3) := by decide +kernel
theorem dL_says_115 : decode cL_says 115 = .ok (.iload 6, 2) := by decide +kernel
theorem dL_says_117 : decode cL_says 117 = .ok (.aload_n 3, 1) := by decide +kernel
theorem dL_says_118 : decode cL_says 118 = .ok (.bipush 10, 2) := by decide +kernel
theorem dL_says_120 : decode cL_says 120 = .ok (.iload 7, 2) := by decide +kernel
theorem dL_says_122 : decode cL_says 122 = .ok (.imul, 1) := by decide +kernel
theorem dL_says_123 : decode cL_says 123 = .ok (.iconst 2, 1) := by decide +kernel
theorem dL_says_124 : decode cL_says 124 = .ok (.iadd, 1) := by decide +kernel
theorem dL_says_125 : decode cL_says 125 = .ok (.iaload, 1) := by decide +kernel
theorem dL_says_126 : decode cL_says 126 = .ok (.iadd, 1) := by decide +kernel
theorem dL_says_127 : decode cL_says 127 = .ok (.istore 6, 2) := by decide +kernel
theorem dL_says_129 : decode cL_says 129 = .ok (.iinc 7 1, 3) := by decide +kernel
theorem dL_says_132 : decode cL_says 132 = .ok (.goto (-77), 3) := by decide +kernel
theorem dL_says_135 : decode cL_says 135 = .ok (.iload 6, 2) := by decide +kernel
theorem dL_says_137 : decode cL_says 137 = .ok (.iload 5, 2) := by decide +kernel
theorem dL_says_139 : decode cL_says 139 = .ok (.if_icmp .le 7, 3) := by decide +kernel
theorem dL_says_142 : decode cL_says 142 = .ok (.iconst 1, 1) := by decide +kernel
theorem dL_says_143 : decode cL_says 143 = .ok (.goto 4, 3) := by decide +kernel
theorem dL_says_146 : decode cL_says 146 = .ok (.iconst 0, 1) := by decide +kernel
theorem dL_says_147 : decode cL_says 147 = .ok (.ireturn, 1) := by decide +kernel
theorem dL_says4_0 : decode cL_says4 0 = .ok (.aload_n 3, 1) := by decide +kernel
theorem dL_says4_1 : decode cL_says4 1 = .ok (.bipush 10, 2) := by decide +kernel
theorem dL_says4_3 : decode cL_says4 3 = .ok (.iload_n 0, 1) := by decide +kernel
theorem dL_says4_4 : decode cL_says4 4 = .ok (.imul, 1) := by decide +kernel
theorem dL_says4_5 : decode cL_says4 5 = .ok (.iaload, 1) := by decide +kernel
theorem dL_says4_6 : decode cL_says4 6 = .ok (.ifCond .ne 14, 3) := by decide +kernel
theorem dL_says4_9 : decode cL_says4 9 = .ok (.aload_n 3, 1) := by decide +kernel
theorem dL_says4_10 : decode cL_says4 10 = .ok (.bipush 10, 2) := by decide +kernel
theorem dL_says4_12 : decode cL_says4 12 = .ok (.iload_n 0, 1) := by decide +kernel
theorem dL_says4_13 : decode cL_says4 13 = .ok (.imul, 1) := by decide +kernel
theorem dL_says4_14 : decode cL_says4 14 = .ok (.iconst 1, 1) := by decide +kernel
theorem dL_says4_15 : decode cL_says4 15 = .ok (.iadd, 1) := by decide +kernel
theorem dL_says4_16 : decode cL_says4 16 = .ok (.iaload, 1) := by decide +kernel
theorem dL_says4_17 : decode cL_says4 17 = .ok (.goto 20, 3) := by decide +kernel
theorem dL_says4_20 : decode cL_says4 20 = .ok (.aload 4, 2) := by decide +kernel
theorem dL_says4_22 : decode cL_says4 22 = .ok (.bipush 8, 2) := by decide +kernel
theorem dL_says4_24 : decode cL_says4 24 = .ok (.iload_n 0, 1) := by decide +kernel
theorem dL_says4_25 : decode cL_says4 25 = .ok (.imul, 1) := by decide +kernel
theorem dL_says4_26 : decode cL_says4 26 = .ok (.iload_n 0, 1) := by decide +kernel
theorem dL_says4_27 : decode cL_says4 27 = .ok (.iload_n 1, 1) := by decide +kernel
theorem dL_says4_28 : decode cL_says4 28 = .ok (.aload_n 2, 1) := by decide +kernel
theorem dL_says4_29 : decode cL_says4 29 = .ok (.aload_n 3, 1) := by decide +kernel
theorem dL_says4_30 : decode cL_says4 30 = .ok (.invokestatic 10, 3) := by decide +kernel
theorem dL_says4_33 : decode cL_says4 33 = .ok (.iadd, 1) := by decide +kernel
theorem dL_says4_34 : decode cL_says4 34 = .ok (.iaload, 1) := by decide +kernel
theorem dL_says4_35 : decode cL_says4 35 = .ok (.iconst 2, 1) := by decide +kernel
theorem dL_says4_36 : decode cL_says4 36 = .ok (.idiv, 1) := by decide +kernel
theorem dL_says4_37 : decode cL_says4 37 = .ok (.ireturn, 1) := by decide +kernel
theorem dL_stake_0 : decode cL_stake 0 = .ok (.iload_n 0, 1) := by decide +kernel
theorem dL_stake_1 : decode cL_stake 1 = .ok (.aload_n 3, 1) := by decide +kernel
theorem dL_stake_2 : decode cL_stake 2 = .ok (.invokestatic 16, 3) := by decide +kernel
theorem dL_stake_5 : decode cL_stake 5 = .ok (.ifCond .ne 5, 3) := by decide +kernel
theorem dL_stake_8 : decode cL_stake 8 = .ok (.iconst 0, 1) := by decide +kernel
theorem dL_stake_9 : decode cL_stake 9 = .ok (.ireturn, 1) := by decide +kernel
theorem dL_stake_10 : decode cL_stake 10 = .ok (.aload_n 2, 1) := by decide +kernel
theorem dL_stake_11 : decode cL_stake 11 = .ok (.iconst 0, 1) := by decide +kernel
theorem dL_stake_12 : decode cL_stake 12 = .ok (.iaload, 1) := by decide +kernel
theorem dL_stake_13 : decode cL_stake 13 = .ok (.istore 5, 2) := by decide +kernel
theorem dL_stake_15 : decode cL_stake 15 = .ok (.iload_n 0, 1) := by decide +kernel
theorem dL_stake_16 : decode cL_stake 16 = .ok (.aload_n 3, 1) := by decide +kernel
theorem dL_stake_17 : decode cL_stake 17 = .ok (.invokestatic 24, 3) := by decide +kernel
theorem dL_stake_20 : decode cL_stake 20 = .ok (.ifCond .eq 42, 3) := by decide +kernel
theorem dL_stake_23 : decode cL_stake 23 = .ok (.aload 4, 2) := by decide +kernel
theorem dL_stake_25 : decode cL_stake 25 = .ok (.bipush 8, 2) := by decide +kernel
theorem dL_stake_27 : decode cL_stake 27 = .ok (.iload_n 0, 1) := by decide +kernel
theorem dL_stake_28 : decode cL_stake 28 = .ok (.imul, 1) := by decide +kernel
theorem dL_stake_29 : decode cL_stake 29 = .ok (.iload_n 0, 1) := by decide +kernel
theorem dL_stake_30 : decode cL_stake 30 = .ok (.iload_n 1, 1) := by decide +kernel
theorem dL_stake_31 : decode cL_stake 31 = .ok (.aload_n 2, 1) := by decide +kernel
theorem dL_stake_32 : decode cL_stake 32 = .ok (.aload_n 3, 1) := by decide +kernel
theorem dL_stake_33 : decode cL_stake 33 = .ok (.invokestatic 10, 3) := by decide +kernel
theorem dL_stake_36 : decode cL_stake 36 = .ok (.iadd, 1) := by decide +kernel
theorem dL_stake_37 : decode cL_stake 37 = .ok (.iaload, 1) := by decide +kernel
theorem dL_stake_38 : decode cL_stake 38 = .ok (.istore 6, 2) := by decide +kernel
theorem dL_stake_40 : decode cL_stake 40 = .ok (.iload 6, 2) := by decide +kernel
theorem dL_stake_42 : decode cL_stake 42 = .ok (.ifCond .eq 9, 3) := by decide +kernel
theorem dL_stake_45 : decode cL_stake 45 = .ok (.iload 6, 2) := by decide +kernel
theorem dL_stake_47 : decode cL_stake 47 = .ok (.iconst 3, 1) := by decide +kernel
theorem dL_stake_48 : decode cL_stake 48 = .ok (.if_icmp .ne 10, 3) := by decide +kernel
theorem dL_stake_51 : decode cL_stake 51 = .ok (.iconst 2, 1) := by decide +kernel
theorem dL_stake_52 : decode cL_stake 52 = .ok (.iload 5, 2) := by decide +kernel
theorem dL_stake_54 : decode cL_stake 54 = .ok (.imul, 1) := by decide +kernel
theorem dL_stake_55 : decode cL_stake 55 = .ok (.goto 5, 3) := by decide +kernel
theorem dL_stake_58 : decode cL_stake 58 = .ok (.iload 5, 2) := by decide +kernel
theorem dL_stake_60 : decode cL_stake 60 = .ok (.istore 5, 2) := by decide +kernel
theorem dL_stake_62 : decode cL_stake 62 = .ok (.iload 5, 2) := by decide +kernel
theorem dL_stake_64 : decode cL_stake 64 = .ok (.aload_n 3, 1) := by decide +kernel
theorem dL_stake_65 : decode cL_stake 65 = .ok (.bipush 10, 2) := by decide +kernel
theorem dL_stake_67 : decode cL_stake 67 = .ok (.iload_n 0, 1) := by decide +kernel
theorem dL_stake_68 : decode cL_stake 68 = .ok (.imul, 1) := by decide +kernel
theorem dL_stake_69 : decode cL_stake 69 = .ok (.iconst 2, 1) := by decide +kernel
theorem dL_stake_70 : decode cL_stake 70 = .ok (.iadd, 1) := by decide +kernel
theorem dL_stake_71 : decode cL_stake 71 = .ok (.iaload, 1) := by decide +kernel
theorem dL_stake_72 : decode cL_stake 72 = .ok (.if_icmp .le 14, 3) := by decide +kernel
theorem dL_stake_75 : decode cL_stake 75 = .ok (.aload_n 3, 1) := by decide +kernel
theorem dL_stake_76 : decode cL_stake 76 = .ok (.bipush 10, 2) := by decide +kernel
theorem dL_stake_78 : decode cL_stake 78 = .ok (.iload_n 0, 1) := by decide +kernel
theorem dL_stake_79 : decode cL_stake 79 = .ok (.imul, 1) := by decide +kernel
theorem dL_stake_80 : decode cL_stake 80 = .ok (.iconst 2, 1) := by decide +kernel
theorem dL_stake_81 : decode cL_stake 81 = .ok (.iadd, 1) := by decide +kernel
theorem dL_stake_82 : decode cL_stake 82 = .ok (.iaload, 1) := by decide +kernel
theorem dL_stake_83 : decode cL_stake 83 = .ok (.goto 5, 3) := by decide +kernel
theorem dL_stake_86 : decode cL_stake 86 = .ok (.iload 5, 2) := by decide +kernel
theorem dL_stake_88 : decode cL_stake 88 = .ok (.ireturn, 1) := by decide +kernel
theorem dL_pays_0 : decode cL_pays 0 = .ok (.iload_n 1, 1) := by decide +kernel
theorem dL_pays_1 : decode cL_pays 1 = .ok (.aload_n 2, 1) := by decide +kernel
theorem dL_pays_2 : decode cL_pays 2 = .ok (.iconst 2, 1) := by decide +kernel
theorem dL_pays_3 : decode cL_pays 3 = .ok (.iaload, 1) := by decide +kernel
theorem dL_pays_4 : decode cL_pays 4 = .ok (.imul, 1) := by decide +kernel
theorem dL_pays_5 : decode cL_pays 5 = .ok (.bipush 100, 2) := by decide +kernel
theorem dL_pays_7 : decode cL_pays 7 = .ok (.idiv, 1) := by decide +kernel
theorem dL_pays_8 : decode cL_pays 8 = .ok (.istore 5, 2) := by decide +kernel
theorem dL_pays_10 : decode cL_pays 10 = .ok (.iconst 0, 1) := by decide +kernel
theorem dL_pays_11 : decode cL_pays 11 = .ok (.istore 6, 2) := by decide +kernel
theorem dL_pays_13 : decode cL_pays 13 = .ok (.iload 6, 2) := by decide +kernel
theorem dL_pays_15 : decode cL_pays 15 = .ok (.aload_n 2, 1) := by decide +kernel
theorem dL_pays_16 : decode cL_pays 16 = .ok (.bipush 7, 2) := by decide +kernel
theorem dL_pays_18 : decode cL_pays 18 = .ok (.iaload, 1) := by decide +kernel
theorem dL_pays_19 : decode cL_pays 19 = .ok (.if_icmp .ge 108, 3) := by decide +kernel
theorem dL_pays_22 : decode cL_pays 22 = .ok (.aload 4, 2) := by decide +kernel
theorem dL_pays_24 : decode cL_pays 24 = .ok (.iconst 3, 1) := by decide +kernel
theorem dL_pays_25 : decode cL_pays 25 = .ok (.iload 6, 2) := by decide +kernel
theorem dL_pays_27 : decode cL_pays 27 = .ok (.imul, 1) := by decide +kernel
theorem dL_pays_28 : decode cL_pays 28 = .ok (.iconst 1, 1) := by decide +kernel
theorem dL_pays_29 : decode cL_pays 29 = .ok (.iadd, 1) := by decide +kernel
theorem dL_pays_30 : decode cL_pays 30 = .ok (.iaload, 1) := by decide +kernel
theorem dL_pays_31 : decode cL_pays 31 = .ok (.iload_n 0, 1) := by decide +kernel
theorem dL_pays_32 : decode cL_pays 32 = .ok (.if_icmp .eq 6, 3) := by decide +kernel
theorem dL_pays_35 : decode cL_pays 35 = .ok (.goto 86, 3) := by decide +kernel
theorem dL_pays_38 : decode cL_pays 38 = .ok (.iload 5, 2) := by decide +kernel
theorem dL_pays_40 : decode cL_pays 40 = .ok (.aload 4, 2) := by decide +kernel
theorem dL_pays_42 : decode cL_pays 42 = .ok (.iconst 3, 1) := by decide +kernel
theorem dL_pays_43 : decode cL_pays 43 = .ok (.iload 6, 2) := by decide +kernel
theorem dL_pays_45 : decode cL_pays 45 = .ok (.imul, 1) := by decide +kernel
theorem dL_pays_46 : decode cL_pays 46 = .ok (.iconst 2, 1) := by decide +kernel
theorem dL_pays_47 : decode cL_pays 47 = .ok (.iadd, 1) := by decide +kernel
theorem dL_pays_48 : decode cL_pays 48 = .ok (.iaload, 1) := by decide +kernel
theorem dL_pays_49 : decode cL_pays 49 = .ok (.if_icmp .ge 8, 3) := by decide +kernel
theorem dL_pays_52 : decode cL_pays 52 = .ok (.iload 5, 2) := by decide +kernel
theorem dL_pays_54 : decode cL_pays 54 = .ok (.goto 12, 3) := by decide +kernel
theorem dL_pays_57 : decode cL_pays 57 = .ok (.aload 4, 2) := by decide +kernel
theorem dL_pays_59 : decode cL_pays 59 = .ok (.iconst 3, 1) := by decide +kernel
theorem dL_pays_60 : decode cL_pays 60 = .ok (.iload 6, 2) := by decide +kernel
theorem dL_pays_62 : decode cL_pays 62 = .ok (.imul, 1) := by decide +kernel
theorem dL_pays_63 : decode cL_pays 63 = .ok (.iconst 2, 1) := by decide +kernel
theorem dL_pays_64 : decode cL_pays 64 = .ok (.iadd, 1) := by decide +kernel
theorem dL_pays_65 : decode cL_pays 65 = .ok (.iaload, 1) := by decide +kernel
theorem dL_pays_66 : decode cL_pays 66 = .ok (.istore 7, 2) := by decide +kernel
theorem dL_pays_68 : decode cL_pays 68 = .ok (.iload 5, 2) := by decide +kernel
theorem dL_pays_70 : decode cL_pays 70 = .ok (.iload 7, 2) := by decide +kernel
theorem dL_pays_72 : decode cL_pays 72 = .ok (.isub, 1) := by decide +kernel
theorem dL_pays_73 : decode cL_pays 73 = .ok (.istore 5, 2) := by decide +kernel
theorem dL_pays_75 : decode cL_pays 75 = .ok (.aload 4, 2) := by decide +kernel
theorem dL_pays_77 : decode cL_pays 77 = .ok (.iconst 3, 1) := by decide +kernel
theorem dL_pays_78 : decode cL_pays 78 = .ok (.iload 6, 2) := by decide +kernel
theorem dL_pays_80 : decode cL_pays 80 = .ok (.imul, 1) := by decide +kernel
theorem dL_pays_81 : decode cL_pays 81 = .ok (.iconst 2, 1) := by decide +kernel
theorem dL_pays_82 : decode cL_pays 82 = .ok (.iadd, 1) := by decide +kernel
theorem dL_pays_83 : decode cL_pays 83 = .ok (.dup2, 1) := by decide +kernel
theorem dL_pays_84 : decode cL_pays 84 = .ok (.iaload, 1) := by decide +kernel
theorem dL_pays_85 : decode cL_pays 85 = .ok (.iload 7, 2) := by decide +kernel
theorem dL_pays_87 : decode cL_pays 87 = .ok (.isub, 1) := by decide +kernel
theorem dL_pays_88 : decode cL_pays 88 = .ok (.iastore, 1) := by decide +kernel
theorem dL_pays_89 : decode cL_pays 89 = .ok (.aload_n 3, 1) := by decide +kernel
theorem dL_pays_90 : decode cL_pays 90 = .ok (.bipush 10, 2) := by decide +kernel
theorem dL_pays_92 : decode cL_pays 92 = .ok (.iload_n 0, 1) := by decide +kernel
theorem dL_pays_93 : decode cL_pays 93 = .ok (.imul, 1) := by decide +kernel
theorem dL_pays_94 : decode cL_pays 94 = .ok (.iconst 2, 1) := by decide +kernel
theorem dL_pays_95 : decode cL_pays 95 = .ok (.iadd, 1) := by decide +kernel
theorem dL_pays_96 : decode cL_pays 96 = .ok (.dup2, 1) := by decide +kernel
theorem dL_pays_97 : decode cL_pays 97 = .ok (.iaload, 1) := by decide +kernel
theorem dL_pays_98 : decode cL_pays 98 = .ok (.iload 7, 2) := by decide +kernel
theorem dL_pays_100 : decode cL_pays 100 = .ok (.isub, 1) := by decide +kernel
theorem dL_pays_101 : decode cL_pays 101 = .ok (.iastore, 1) := by decide +kernel
theorem dL_pays_102 : decode cL_pays 102 = .ok (.aload_n 3, 1) := by decide +kernel
theorem dL_pays_103 : decode cL_pays 103 = .ok (.bipush 10, 2) := by decide +kernel
theorem dL_pays_105 : decode cL_pays 105 = .ok (.aload 4, 2) := by decide +kernel
theorem dL_pays_107 : decode cL_pays 107 = .ok (.iconst 3, 1) := by decide +kernel
theorem dL_pays_108 : decode cL_pays 108 = .ok (.iload 6, 2) := by decide +kernel
theorem dL_pays_110 : decode cL_pays 110 = .ok (.imul, 1) := by decide +kernel
theorem dL_pays_111 : decode cL_pays 111 = .ok (.iaload, 1) := by decide +kernel
theorem dL_pays_112 : decode cL_pays 112 = .ok (.imul, 1) := by decide +kernel
theorem dL_pays_113 : decode cL_pays 113 = .ok (.iconst 2, 1) := by decide +kernel
theorem dL_pays_114 : decode cL_pays 114 = .ok (.iadd, 1) := by decide +kernel
theorem dL_pays_115 : decode cL_pays 115 = .ok (.dup2, 1) := by decide +kernel
theorem dL_pays_116 : decode cL_pays 116 = .ok (.iaload, 1) := by decide +kernel
theorem dL_pays_117 : decode cL_pays 117 = .ok (.iload 7, 2) := by decide +kernel
theorem dL_pays_119 : decode cL_pays 119 = .ok (.iadd, 1) := by decide +kernel
theorem dL_pays_120 : decode cL_pays 120 = .ok (.iastore, 1) := by decide +kernel
theorem dL_pays_121 : decode cL_pays 121 = .ok (.iinc 6 1, 3) := by decide +kernel
theorem dL_pays_124 : decode cL_pays 124 = .ok (.goto (-111), 3) := by decide +kernel
theorem dL_pays_127 : decode cL_pays 127 = .ok (.iconst 0, 1) := by decide +kernel
theorem dL_pays_128 : decode cL_pays 128 = .ok (.istore 6, 2) := by decide +kernel
theorem dL_pays_130 : decode cL_pays 130 = .ok (.iconst 0, 1) := by decide +kernel
theorem dL_pays_131 : decode cL_pays 131 = .ok (.istore 7, 2) := by decide +kernel
theorem dL_pays_133 : decode cL_pays 133 = .ok (.iload 7, 2) := by decide +kernel
theorem dL_pays_135 : decode cL_pays 135 = .ok (.aload_n 2, 1) := by decide +kernel
theorem dL_pays_136 : decode cL_pays 136 = .ok (.bipush 7, 2) := by decide +kernel
theorem dL_pays_138 : decode cL_pays 138 = .ok (.iaload, 1) := by decide +kernel
theorem dL_pays_139 : decode cL_pays 139 = .ok (.if_icmp .ge 83, 3) := by decide +kernel
theorem dL_pays_142 : decode cL_pays 142 = .ok (.aload 4, 2) := by decide +kernel
theorem dL_pays_144 : decode cL_pays 144 = .ok (.iconst 3, 1) := by decide +kernel
theorem dL_pays_145 : decode cL_pays 145 = .ok (.iload 7, 2) := by decide +kernel
theorem dL_pays_147 : decode cL_pays 147 = .ok (.imul, 1) := by decide +kernel
theorem dL_pays_148 : decode cL_pays 148 = .ok (.iconst 2, 1) := by decide +kernel
theorem dL_pays_149 : decode cL_pays 149 = .ok (.iadd, 1) := by decide +kernel
theorem dL_pays_150 : decode cL_pays 150 = .ok (.iaload, 1) := by decide +kernel
theorem dL_pays_151 : decode cL_pays 151 = .ok (.ifCond .le 7, 3) := by decide +kernel
theorem dL_pays_154 : decode cL_pays 154 = .ok (.iconst 1, 1) := by decide +kernel
theorem dL_pays_155 : decode cL_pays 155 = .ok (.goto 4, 3) := by decide +kernel
theorem dL_pays_158 : decode cL_pays 158 = .ok (.iconst 0, 1) := by decide +kernel
theorem dL_pays_159 : decode cL_pays 159 = .ok (.istore 8, 2) := by decide +kernel
theorem dL_pays_161 : decode cL_pays 161 = .ok (.iconst 0, 1) := by decide +kernel
theorem dL_pays_162 : decode cL_pays 162 = .ok (.istore 9, 2) := by decide +kernel
theorem dL_pays_164 : decode cL_pays 164 = .ok (.iload 9, 2) := by decide +kernel
theorem dL_pays_166 : decode cL_pays 166 = .ok (.iconst 3, 1) := by decide +kernel
theorem dL_pays_167 : decode cL_pays 167 = .ok (.if_icmp .ge 34, 3) := by decide +kernel
theorem dL_pays_170 : decode cL_pays 170 = .ok (.iload 8, 2) := by decide +kernel
theorem dL_pays_172 : decode cL_pays 172 = .ok (.ifCond .eq 29, 3) := by decide +kernel
theorem dL_pays_175 : decode cL_pays 175 = .ok (.aload 4, 2) := by decide +kernel
theorem dL_pays_177 : decode cL_pays 177 = .ok (.iconst 3, 1) := by decide +kernel
theorem dL_pays_178 : decode cL_pays 178 = .ok (.iload 6, 2) := by decide +kernel
theorem dL_pays_180 : decode cL_pays 180 = .ok (.imul, 1) := by decide +kernel
theorem dL_pays_181 : decode cL_pays 181 = .ok (.iload 9, 2) := by decide +kernel
theorem dL_pays_183 : decode cL_pays 183 = .ok (.iadd, 1) := by decide +kernel
theorem dL_pays_184 : decode cL_pays 184 = .ok (.aload 4, 2) := by decide +kernel
theorem dL_pays_186 : decode cL_pays 186 = .ok (.iconst 3, 1) := by decide +kernel
theorem dL_pays_187 : decode cL_pays 187 = .ok (.iload 7, 2) := by decide +kernel
theorem dL_pays_189 : decode cL_pays 189 = .ok (.imul, 1) := by decide +kernel
theorem dL_pays_190 : decode cL_pays 190 = .ok (.iload 9, 2) := by decide +kernel
theorem dL_pays_192 : decode cL_pays 192 = .ok (.iadd, 1) := by decide +kernel
theorem dL_pays_193 : decode cL_pays 193 = .ok (.iaload, 1) := by decide +kernel
theorem dL_pays_194 : decode cL_pays 194 = .ok (.iastore, 1) := by decide +kernel
theorem dL_pays_195 : decode cL_pays 195 = .ok (.iinc 9 1, 3) := by decide +kernel
theorem dL_pays_198 : decode cL_pays 198 = .ok (.goto (-34), 3) := by decide +kernel
theorem dL_pays_201 : decode cL_pays 201 = .ok (.iload 6, 2) := by decide +kernel
theorem dL_pays_203 : decode cL_pays 203 = .ok (.iload 8, 2) := by decide +kernel
theorem dL_pays_205 : decode cL_pays 205 = .ok (.ifCond .eq 7, 3) := by decide +kernel
theorem dL_pays_208 : decode cL_pays 208 = .ok (.iconst 1, 1) := by decide +kernel
theorem dL_pays_209 : decode cL_pays 209 = .ok (.goto 4, 3) := by decide +kernel
theorem dL_pays_212 : decode cL_pays 212 = .ok (.iconst 0, 1) := by decide +kernel
theorem dL_pays_213 : decode cL_pays 213 = .ok (.iadd, 1) := by decide +kernel
theorem dL_pays_214 : decode cL_pays 214 = .ok (.istore 6, 2) := by decide +kernel
theorem dL_pays_216 : decode cL_pays 216 = .ok (.iinc 7 1, 3) := by decide +kernel
theorem dL_pays_219 : decode cL_pays 219 = .ok (.goto (-86), 3) := by decide +kernel
theorem dL_pays_222 : decode cL_pays 222 = .ok (.aload_n 2, 1) := by decide +kernel
theorem dL_pays_223 : decode cL_pays 223 = .ok (.bipush 7, 2) := by decide +kernel
theorem dL_pays_225 : decode cL_pays 225 = .ok (.iload 6, 2) := by decide +kernel
theorem dL_pays_227 : decode cL_pays 227 = .ok (.iastore, 1) := by decide +kernel
theorem dL_pays_228 : decode cL_pays 228 = .ok (.return_, 1) := by decide +kernel
theorem dL_branch_0 : decode cL_branch 0 = .ok (.iconst 0, 1) := by decide +kernel
theorem dL_branch_1 : decode cL_branch 1 = .ok (.istore 7, 2) := by decide +kernel
theorem dL_branch_3 : decode cL_branch 3 = .ok (.iconst 0, 1) := by decide +kernel
theorem dL_branch_4 : decode cL_branch 4 = .ok (.istore 8, 2) := by decide +kernel
theorem dL_branch_6 : decode cL_branch 6 = .ok (.iconst 0, 1) := by decide +kernel
theorem dL_branch_7 : decode cL_branch 7 = .ok (.istore 9, 2) := by decide +kernel
theorem dL_branch_9 : decode cL_branch 9 = .ok (.iload 9, 2) := by decide +kernel
theorem dL_branch_11 : decode cL_branch 11 = .ok (.iconst 5, 1) := by decide +kernel
theorem dL_branch_12 : decode cL_branch 12 = .ok (.if_icmp .ge 108, 3) := by decide +kernel
theorem dL_branch_15 : decode cL_branch 15 = .ok (.aload 6, 2) := by decide +kernel
theorem dL_branch_17 : decode cL_branch 17 = .ok (.iload 9, 2) := by decide +kernel
theorem dL_branch_19 : decode cL_branch 19 = .ok (.iload 9, 2) := by decide +kernel
theorem dL_branch_21 : decode cL_branch 21 = .ok (.iload_n 0, 1) := by decide +kernel
theorem dL_branch_22 : decode cL_branch 22 = .ok (.aload_n 2, 1) := by decide +kernel
theorem dL_branch_23 : decode cL_branch 23 = .ok (.aload_n 3, 1) := by decide +kernel
theorem dL_branch_24 : decode cL_branch 24 = .ok (.aload 4, 2) := by decide +kernel
theorem dL_branch_26 : decode cL_branch 26 = .ok (.invokestatic 27, 3) := by decide +kernel
theorem dL_branch_29 : decode cL_branch 29 = .ok (.iastore, 1) := by decide +kernel
theorem dL_branch_30 : decode cL_branch 30 = .ok (.aload 6, 2) := by decide +kernel
theorem dL_branch_32 : decode cL_branch 32 = .ok (.iconst 5, 1) := by decide +kernel
theorem dL_branch_33 : decode cL_branch 33 = .ok (.iload 9, 2) := by decide +kernel
theorem dL_branch_35 : decode cL_branch 35 = .ok (.iadd, 1) := by decide +kernel
theorem dL_branch_36 : decode cL_branch 36 = .ok (.iload 9, 2) := by decide +kernel
theorem dL_branch_38 : decode cL_branch 38 = .ok (.iload_n 0, 1) := by decide +kernel
theorem dL_branch_39 : decode cL_branch 39 = .ok (.aload_n 2, 1) := by decide +kernel
theorem dL_branch_40 : decode cL_branch 40 = .ok (.aload_n 3, 1) := by decide +kernel
theorem dL_branch_41 : decode cL_branch 41 = .ok (.aload 4, 2) := by decide +kernel
theorem dL_branch_43 : decode cL_branch 43 = .ok (.invokestatic 30, 3) := by decide +kernel
theorem dL_branch_46 : decode cL_branch 46 = .ok (.iastore, 1) := by decide +kernel
theorem dL_branch_47 : decode cL_branch 47 = .ok (.aload 6, 2) := by decide +kernel
theorem dL_branch_49 : decode cL_branch 49 = .ok (.bipush 10, 2) := by decide +kernel
theorem dL_branch_51 : decode cL_branch 51 = .ok (.iload 9, 2) := by decide +kernel
theorem dL_branch_53 : decode cL_branch 53 = .ok (.iadd, 1) := by decide +kernel
theorem dL_branch_54 : decode cL_branch 54 = .ok (.aload_n 3, 1) := by decide +kernel
theorem dL_branch_55 : decode cL_branch 55 = .ok (.bipush 10, 2) := by decide +kernel
theorem dL_branch_57 : decode cL_branch 57 = .ok (.iload 9, 2) := by decide +kernel
theorem dL_branch_59 : decode cL_branch 59 = .ok (.imul, 1) := by decide +kernel
theorem dL_branch_60 : decode cL_branch 60 = .ok (.iconst 2, 1) := by decide +kernel
theorem dL_branch_61 : decode cL_branch 61 = .ok (.iadd, 1) := by decide +kernel
theorem dL_branch_62 : decode cL_branch 62 = .ok (.iaload, 1) := by decide +kernel
theorem dL_branch_63 : decode cL_branch 63 = .ok (.iastore, 1) := by decide +kernel
theorem dL_branch_64 : decode cL_branch 64 = .ok (.iload 7, 2) := by decide +kernel
theorem dL_branch_66 : decode cL_branch 66 = .ok (.aload 6, 2) := by decide +kernel
theorem dL_branch_68 : decode cL_branch 68 = .ok (.iload 9, 2) := by decide +kernel
theorem dL_branch_70 : decode cL_branch 70 = .ok (.iaload, 1) := by decide +kernel
theorem dL_branch_71 : decode cL_branch 71 = .ok (.iload_n 1, 1) := by decide +kernel
theorem dL_branch_72 : decode cL_branch 72 = .ok (.if_icmp .eq 13, 3) := by decide +kernel
theorem dL_branch_75 : decode cL_branch 75 = .ok (.aload 6, 2) := by decide +kernel
theorem dL_branch_77 : decode cL_branch 77 = .ok (.iconst 5, 1) := by decide +kernel
theorem dL_branch_78 : decode cL_branch 78 = .ok (.iload 9, 2) := by decide +kernel
theorem dL_branch_80 : decode cL_branch 80 = .ok (.iadd, 1) := by decide +kernel
theorem dL_branch_81 : decode cL_branch 81 = .ok (.iaload, 1) := by decide +kernel
theorem dL_branch_82 : decode cL_branch 82 = .ok (.goto 4, 3) := by decide +kernel
theorem dL_branch_85 : decode cL_branch 85 = .ok (.iconst 0, 1) := by decide +kernel
theorem dL_branch_86 : decode cL_branch 86 = .ok (.iadd, 1) := by decide +kernel
theorem dL_branch_87 : decode cL_branch 87 = .ok (.istore 7, 2) := by decide +kernel
theorem dL_branch_89 : decode cL_branch 89 = .ok (.iload 8, 2) := by decide +kernel
theorem dL_branch_91 : decode cL_branch 91 = .ok (.aload 6, 2) := by decide +kernel
theorem dL_branch_93 : decode cL_branch 93 = .ok (.iload 9, 2) := by decide +kernel
theorem dL_branch_95 : decode cL_branch 95 = .ok (.iaload, 1) := by decide +kernel
theorem dL_branch_96 : decode cL_branch 96 = .ok (.iload_n 1, 1) := by decide +kernel
theorem dL_branch_97 : decode cL_branch 97 = .ok (.if_icmp .ne 13, 3) := by decide +kernel
theorem dL_branch_100 : decode cL_branch 100 = .ok (.aload 6, 2) := by decide +kernel
theorem dL_branch_102 : decode cL_branch 102 = .ok (.iconst 5, 1) := by decide +kernel
theorem dL_branch_103 : decode cL_branch 103 = .ok (.iload 9, 2) := by decide +kernel
theorem dL_branch_105 : decode cL_branch 105 = .ok (.iadd, 1) := by decide +kernel
theorem dL_branch_106 : decode cL_branch 106 = .ok (.iaload, 1) := by decide +kernel
theorem dL_branch_107 : decode cL_branch 107 = .ok (.goto 4, 3) := by decide +kernel
theorem dL_branch_110 : decode cL_branch 110 = .ok (.iconst 0, 1) := by decide +kernel
theorem dL_branch_111 : decode cL_branch 111 = .ok (.iadd, 1) := by decide +kernel
theorem dL_branch_112 : decode cL_branch 112 = .ok (.istore 8, 2) := by decide +kernel
theorem dL_branch_114 : decode cL_branch 114 = .ok (.iinc 9 1, 3) := by decide +kernel
theorem dL_branch_117 : decode cL_branch 117 = .ok (.goto (-108), 3) := by decide +kernel
theorem dL_branch_120 : decode cL_branch 120 = .ok (.iload 7, 2) := by decide +kernel
theorem dL_branch_122 : decode cL_branch 122 = .ok (.ifCond .le 12, 3) := by decide +kernel
theorem dL_branch_125 : decode cL_branch 125 = .ok (.iload 8, 2) := by decide +kernel
theorem dL_branch_127 : decode cL_branch 127 = .ok (.ifCond .le 7, 3) := by decide +kernel
theorem dL_branch_130 : decode cL_branch 130 = .ok (.iconst 1, 1) := by decide +kernel
theorem dL_branch_131 : decode cL_branch 131 = .ok (.goto 4, 3) := by decide +kernel
theorem dL_branch_134 : decode cL_branch 134 = .ok (.iconst 0, 1) := by decide +kernel
theorem dL_branch_135 : decode cL_branch 135 = .ok (.istore 9, 2) := by decide +kernel
theorem dL_branch_137 : decode cL_branch 137 = .ok (.iload 7, 2) := by decide +kernel
theorem dL_branch_139 : decode cL_branch 139 = .ok (.istore 10, 2) := by decide +kernel
theorem dL_branch_141 : decode cL_branch 141 = .ok (.iconst 0, 1) := by decide +kernel
theorem dL_branch_142 : decode cL_branch 142 = .ok (.istore 11, 2) := by decide +kernel
theorem dL_branch_144 : decode cL_branch 144 = .ok (.iload 11, 2) := by decide +kernel
theorem dL_branch_146 : decode cL_branch 146 = .ok (.iconst 5, 1) := by decide +kernel
theorem dL_branch_147 : decode cL_branch 147 = .ok (.if_icmp .ge 46, 3) := by decide +kernel
theorem dL_branch_150 : decode cL_branch 150 = .ok (.iload 9, 2) := by decide +kernel
theorem dL_branch_152 : decode cL_branch 152 = .ok (.ifCond .eq 41, 3) := by decide +kernel
theorem dL_branch_155 : decode cL_branch 155 = .ok (.aload_n 3, 1) := by decide +kernel
theorem dL_branch_156 : decode cL_branch 156 = .ok (.bipush 10, 2) := by decide +kernel
theorem dL_branch_158 : decode cL_branch 158 = .ok (.iload 11, 2) := by decide +kernel
theorem dL_branch_160 : decode cL_branch 160 = .ok (.imul, 1) := by decide +kernel
theorem dL_branch_161 : decode cL_branch 161 = .ok (.iconst 2, 1) := by decide +kernel
theorem dL_branch_162 : decode cL_branch 162 = .ok (.iadd, 1) := by decide +kernel
theorem dL_branch_163 : decode cL_branch 163 = .ok (.dup2, 1) := by decide +kernel
theorem dL_branch_164 : decode cL_branch 164 = .ok (.iaload, 1) := by decide +kernel
theorem dL_branch_165 : decode cL_branch 165 = .ok (.aload 6, 2) := by decide +kernel
theorem dL_branch_167 : decode cL_branch 167 = .ok (.iload 11, 2) := by decide +kernel
theorem dL_branch_169 : decode cL_branch 169 = .ok (.iaload, 1) := by decide +kernel
theorem dL_branch_170 : decode cL_branch 170 = .ok (.iload_n 1, 1) := by decide +kernel
theorem dL_branch_171 : decode cL_branch 171 = .ok (.if_icmp .eq 13, 3) := by decide +kernel
theorem dL_branch_174 : decode cL_branch 174 = .ok (.aload 6, 2) := by decide +kernel
theorem dL_branch_176 : decode cL_branch 176 = .ok (.iconst 5, 1) := by decide +kernel
theorem dL_branch_177 : decode cL_branch 177 = .ok (.iload 11, 2) := by decide +kernel
theorem dL_branch_179 : decode cL_branch 179 = .ok (.iadd, 1) := by decide +kernel
theorem dL_branch_180 : decode cL_branch 180 = .ok (.iaload, 1) := by decide +kernel
theorem dL_branch_181 : decode cL_branch 181 = .ok (.goto 4, 3) := by decide +kernel
theorem dL_branch_184 : decode cL_branch 184 = .ok (.iconst 0, 1) := by decide +kernel
theorem dL_branch_185 : decode cL_branch 185 = .ok (.isub, 1) := by decide +kernel
theorem dL_branch_186 : decode cL_branch 186 = .ok (.iastore, 1) := by decide +kernel
theorem dL_branch_187 : decode cL_branch 187 = .ok (.iinc 11 1, 3) := by decide +kernel
theorem dL_branch_190 : decode cL_branch 190 = .ok (.goto (-46), 3) := by decide +kernel
theorem dL_branch_193 : decode cL_branch 193 = .ok (.iconst 0, 1) := by decide +kernel
theorem dL_branch_194 : decode cL_branch 194 = .ok (.istore 11, 2) := by decide +kernel
theorem dL_branch_196 : decode cL_branch 196 = .ok (.iload 11, 2) := by decide +kernel
theorem dL_branch_198 : decode cL_branch 198 = .ok (.iconst 5, 1) := by decide +kernel
theorem dL_branch_199 : decode cL_branch 199 = .ok (.if_icmp .ge 92, 3) := by decide +kernel
theorem dL_branch_202 : decode cL_branch 202 = .ok (.iload 9, 2) := by decide +kernel
theorem dL_branch_204 : decode cL_branch 204 = .ok (.ifCond .eq 87, 3) := by decide +kernel
theorem dL_branch_207 : decode cL_branch 207 = .ok (.aload 6, 2) := by decide +kernel
theorem dL_branch_209 : decode cL_branch 209 = .ok (.iload 11, 2) := by decide +kernel
theorem dL_branch_211 : decode cL_branch 211 = .ok (.iaload, 1) := by decide +kernel
theorem dL_branch_212 : decode cL_branch 212 = .ok (.iload_n 1, 1) := by decide +kernel
theorem dL_branch_213 : decode cL_branch 213 = .ok (.if_icmp .ne 29, 3) := by decide +kernel
theorem dL_branch_216 : decode cL_branch 216 = .ok (.iload 7, 2) := by decide +kernel
theorem dL_branch_218 : decode cL_branch 218 = .ok (.iload 7, 2) := by decide +kernel
theorem dL_branch_220 : decode cL_branch 220 = .ok (.aload_n 2, 1) := by decide +kernel
theorem dL_branch_221 : decode cL_branch 221 = .ok (.iconst 1, 1) := by decide +kernel
theorem dL_branch_222 : decode cL_branch 222 = .ok (.iaload, 1) := by decide +kernel
theorem dL_branch_223 : decode cL_branch 223 = .ok (.imul, 1) := by decide +kernel
theorem dL_branch_224 : decode cL_branch 224 = .ok (.bipush 100, 2) := by decide +kernel
theorem dL_branch_226 : decode cL_branch 226 = .ok (.idiv, 1) := by decide +kernel
theorem dL_branch_227 : decode cL_branch 227 = .ok (.isub, 1) := by decide +kernel
theorem dL_branch_228 : decode cL_branch 228 = .ok (.aload 6, 2) := by decide +kernel
theorem dL_branch_230 : decode cL_branch 230 = .ok (.iconst 5, 1) := by decide +kernel
theorem dL_branch_231 : decode cL_branch 231 = .ok (.iload 11, 2) := by decide +kernel
theorem dL_branch_233 : decode cL_branch 233 = .ok (.iadd, 1) := by decide +kernel
theorem dL_branch_234 : decode cL_branch 234 = .ok (.iaload, 1) := by decide +kernel
theorem dL_branch_235 : decode cL_branch 235 = .ok (.imul, 1) := by decide +kernel
theorem dL_branch_236 : decode cL_branch 236 = .ok (.iload 8, 2) := by decide +kernel
theorem dL_branch_238 : decode cL_branch 238 = .ok (.idiv, 1) := by decide +kernel
theorem dL_branch_239 : decode cL_branch 239 = .ok (.goto 4, 3) := by decide +kernel
theorem dL_branch_242 : decode cL_branch 242 = .ok (.iconst 0, 1) := by decide +kernel
theorem dL_branch_243 : decode cL_branch 243 = .ok (.istore 12, 2) := by decide +kernel
theorem dL_branch_245 : decode cL_branch 245 = .ok (.iload 12, 2) := by decide +kernel
theorem dL_branch_247 : decode cL_branch 247 = .ok (.ifCond .ne 6, 3) := by decide +kernel
theorem dL_branch_250 : decode cL_branch 250 = .ok (.goto 35, 3) := by decide +kernel
theorem dL_branch_253 : decode cL_branch 253 = .ok (.iload 10, 2) := by decide +kernel
theorem dL_branch_255 : decode cL_branch 255 = .ok (.iload 12, 2) := by decide +kernel
theorem dL_branch_257 : decode cL_branch 257 = .ok (.isub, 1) := by decide +kernel
theorem dL_branch_258 : decode cL_branch 258 = .ok (.istore 10, 2) := by decide +kernel
theorem dL_branch_260 : decode cL_branch 260 = .ok (.aload_n 3, 1) := by decide +kernel
theorem dL_branch_261 : decode cL_branch 261 = .ok (.bipush 10, 2) := by decide +kernel
theorem dL_branch_263 : decode cL_branch 263 = .ok (.iload 11, 2) := by decide +kernel
theorem dL_branch_265 : decode cL_branch 265 = .ok (.imul, 1) := by decide +kernel
theorem dL_branch_266 : decode cL_branch 266 = .ok (.iconst 2, 1) := by decide +kernel
theorem dL_branch_267 : decode cL_branch 267 = .ok (.iadd, 1) := by decide +kernel
theorem dL_branch_268 : decode cL_branch 268 = .ok (.dup2, 1) := by decide +kernel
theorem dL_branch_269 : decode cL_branch 269 = .ok (.iaload, 1) := by decide +kernel
theorem dL_branch_270 : decode cL_branch 270 = .ok (.iload 12, 2) := by decide +kernel
theorem dL_branch_272 : decode cL_branch 272 = .ok (.iadd, 1) := by decide +kernel
theorem dL_branch_273 : decode cL_branch 273 = .ok (.iastore, 1) := by decide +kernel
theorem dL_branch_274 : decode cL_branch 274 = .ok (.iload 11, 2) := by decide +kernel
theorem dL_branch_276 : decode cL_branch 276 = .ok (.iload 12, 2) := by decide +kernel
theorem dL_branch_278 : decode cL_branch 278 = .ok (.aload_n 2, 1) := by decide +kernel
theorem dL_branch_279 : decode cL_branch 279 = .ok (.aload_n 3, 1) := by decide +kernel
theorem dL_branch_280 : decode cL_branch 280 = .ok (.aload 5, 2) := by decide +kernel
theorem dL_branch_282 : decode cL_branch 282 = .ok (.invokestatic 33, 3) := by decide +kernel
theorem dL_branch_285 : decode cL_branch 285 = .ok (.iinc 11 1, 3) := by decide +kernel
theorem dL_branch_288 : decode cL_branch 288 = .ok (.goto (-92), 3) := by decide +kernel
theorem dL_branch_291 : decode cL_branch 291 = .ok (.aload_n 2, 1) := by decide +kernel
theorem dL_branch_292 : decode cL_branch 292 = .ok (.iconst 4, 1) := by decide +kernel
theorem dL_branch_293 : decode cL_branch 293 = .ok (.dup2, 1) := by decide +kernel
theorem dL_branch_294 : decode cL_branch 294 = .ok (.iaload, 1) := by decide +kernel
theorem dL_branch_295 : decode cL_branch 295 = .ok (.iload 9, 2) := by decide +kernel
theorem dL_branch_297 : decode cL_branch 297 = .ok (.ifCond .eq 8, 3) := by decide +kernel
theorem dL_branch_300 : decode cL_branch 300 = .ok (.iload 10, 2) := by decide +kernel
theorem dL_branch_302 : decode cL_branch 302 = .ok (.goto 4, 3) := by decide +kernel
theorem dL_branch_305 : decode cL_branch 305 = .ok (.iconst 0, 1) := by decide +kernel
theorem dL_branch_306 : decode cL_branch 306 = .ok (.iadd, 1) := by decide +kernel
theorem dL_branch_307 : decode cL_branch 307 = .ok (.iastore, 1) := by decide +kernel
theorem dL_branch_308 : decode cL_branch 308 = .ok (.aload_n 2, 1) := by decide +kernel
theorem dL_branch_309 : decode cL_branch 309 = .ok (.bipush 6, 2) := by decide +kernel
theorem dL_branch_311 : decode cL_branch 311 = .ok (.dup2, 1) := by decide +kernel
theorem dL_branch_312 : decode cL_branch 312 = .ok (.iaload, 1) := by decide +kernel
theorem dL_branch_313 : decode cL_branch 313 = .ok (.iload 9, 2) := by decide +kernel
theorem dL_branch_315 : decode cL_branch 315 = .ok (.ifCond .eq 7, 3) := by decide +kernel
theorem dL_branch_318 : decode cL_branch 318 = .ok (.iconst 1, 1) := by decide +kernel
theorem dL_branch_319 : decode cL_branch 319 = .ok (.goto 4, 3) := by decide +kernel
theorem dL_branch_322 : decode cL_branch 322 = .ok (.iconst 0, 1) := by decide +kernel
theorem dL_branch_323 : decode cL_branch 323 = .ok (.iadd, 1) := by decide +kernel
theorem dL_branch_324 : decode cL_branch 324 = .ok (.iastore, 1) := by decide +kernel
theorem dL_branch_325 : decode cL_branch 325 = .ok (.iconst 0, 1) := by decide +kernel
theorem dL_branch_326 : decode cL_branch 326 = .ok (.istore 11, 2) := by decide +kernel
theorem dL_branch_328 : decode cL_branch 328 = .ok (.iload 11, 2) := by decide +kernel
theorem dL_branch_330 : decode cL_branch 330 = .ok (.iconst 5, 1) := by decide +kernel
theorem dL_branch_331 : decode cL_branch 331 = .ok (.if_icmp .ge 240, 3) := by decide +kernel
theorem dL_branch_334 : decode cL_branch 334 = .ok (.aload_n 3, 1) := by decide +kernel
theorem dL_branch_335 : decode cL_branch 335 = .ok (.bipush 10, 2) := by decide +kernel
theorem dL_branch_337 : decode cL_branch 337 = .ok (.iload 11, 2) := by decide +kernel
theorem dL_branch_339 : decode cL_branch 339 = .ok (.imul, 1) := by decide +kernel
theorem dL_branch_340 : decode cL_branch 340 = .ok (.iconst 3, 1) := by decide +kernel
theorem dL_branch_341 : decode cL_branch 341 = .ok (.iadd, 1) := by decide +kernel
theorem dL_branch_342 : decode cL_branch 342 = .ok (.iaload, 1) := by decide +kernel
theorem dL_branch_343 : decode cL_branch 343 = .ok (.ifCond .lt 110, 3) := by decide +kernel
theorem dL_branch_346 : decode cL_branch 346 = .ok (.aload 6, 2) := by decide +kernel
theorem dL_branch_348 : decode cL_branch 348 = .ok (.bipush 10, 2) := by decide +kernel
theorem dL_branch_350 : decode cL_branch 350 = .ok (.iload 11, 2) := by decide +kernel
theorem dL_branch_352 : decode cL_branch 352 = .ok (.iadd, 1) := by decide +kernel
theorem dL_branch_353 : decode cL_branch 353 = .ok (.iaload, 1) := by decide +kernel
theorem dL_branch_354 : decode cL_branch 354 = .ok (.ifCond .le 99, 3) := by decide +kernel
theorem dL_branch_357 : decode cL_branch 357 = .ok (.aload 6, 2) := by decide +kernel
theorem dL_branch_359 : decode cL_branch 359 = .ok (.iload 11, 2) := by decide +kernel
theorem dL_branch_361 : decode cL_branch 361 = .ok (.iaload, 1) := by decide +kernel
theorem dL_branch_362 : decode cL_branch 362 = .ok (.iload_n 1, 1) := by decide +kernel
theorem dL_branch_363 : decode cL_branch 363 = .ok (.if_icmp .ne 7, 3) := by decide +kernel
theorem dL_branch_366 : decode cL_branch 366 = .ok (.iconst 1, 1) := by decide +kernel
theorem dL_branch_367 : decode cL_branch 367 = .ok (.goto 4, 3) := by decide +kernel
theorem dL_branch_370 : decode cL_branch 370 = .ok (.iconst 0, 1) := by decide +kernel
theorem dL_branch_371 : decode cL_branch 371 = .ok (.istore 12, 2) := by decide +kernel
theorem dL_branch_373 : decode cL_branch 373 = .ok (.aload_n 3, 1) := by decide +kernel
theorem dL_branch_374 : decode cL_branch 374 = .ok (.bipush 10, 2) := by decide +kernel
theorem dL_branch_376 : decode cL_branch 376 = .ok (.iload 11, 2) := by decide +kernel
theorem dL_branch_378 : decode cL_branch 378 = .ok (.imul, 1) := by decide +kernel
theorem dL_branch_379 : decode cL_branch 379 = .ok (.iconst 4, 1) := by decide +kernel
theorem dL_branch_380 : decode cL_branch 380 = .ok (.iadd, 1) := by decide +kernel
theorem dL_branch_381 : decode cL_branch 381 = .ok (.dup2, 1) := by decide +kernel
theorem dL_branch_382 : decode cL_branch 382 = .ok (.iaload, 1) := by decide +kernel
theorem dL_branch_383 : decode cL_branch 383 = .ok (.iload 12, 2) := by decide +kernel
theorem dL_branch_385 : decode cL_branch 385 = .ok (.ifCond .eq 7, 3) := by decide +kernel
theorem dL_branch_388 : decode cL_branch 388 = .ok (.iconst 1, 1) := by decide +kernel
theorem dL_branch_389 : decode cL_branch 389 = .ok (.goto 4, 3) := by decide +kernel
theorem dL_branch_392 : decode cL_branch 392 = .ok (.iconst 0, 1) := by decide +kernel
theorem dL_branch_393 : decode cL_branch 393 = .ok (.iadd, 1) := by decide +kernel
theorem dL_branch_394 : decode cL_branch 394 = .ok (.iastore, 1) := by decide +kernel
theorem dL_branch_395 : decode cL_branch 395 = .ok (.aload_n 3, 1) := by decide +kernel
theorem dL_branch_396 : decode cL_branch 396 = .ok (.bipush 10, 2) := by decide +kernel
theorem dL_branch_398 : decode cL_branch 398 = .ok (.iload 11, 2) := by decide +kernel
theorem dL_branch_400 : decode cL_branch 400 = .ok (.imul, 1) := by decide +kernel
theorem dL_branch_401 : decode cL_branch 401 = .ok (.iconst 5, 1) := by decide +kernel
theorem dL_branch_402 : decode cL_branch 402 = .ok (.iadd, 1) := by decide +kernel
theorem dL_branch_403 : decode cL_branch 403 = .ok (.dup2, 1) := by decide +kernel
theorem dL_branch_404 : decode cL_branch 404 = .ok (.iaload, 1) := by decide +kernel
theorem dL_branch_405 : decode cL_branch 405 = .ok (.iload 12, 2) := by decide +kernel
theorem dL_branch_407 : decode cL_branch 407 = .ok (.ifCond .eq 7, 3) := by decide +kernel
theorem dL_branch_410 : decode cL_branch 410 = .ok (.iconst 0, 1) := by decide +kernel
theorem dL_branch_411 : decode cL_branch 411 = .ok (.goto 4, 3) := by decide +kernel
theorem dL_branch_414 : decode cL_branch 414 = .ok (.iconst 1, 1) := by decide +kernel
theorem dL_branch_415 : decode cL_branch 415 = .ok (.iadd, 1) := by decide +kernel
theorem dL_branch_416 : decode cL_branch 416 = .ok (.iastore, 1) := by decide +kernel
theorem dL_branch_417 : decode cL_branch 417 = .ok (.aload_n 3, 1) := by decide +kernel
theorem dL_branch_418 : decode cL_branch 418 = .ok (.bipush 10, 2) := by decide +kernel
theorem dL_branch_420 : decode cL_branch 420 = .ok (.iload 11, 2) := by decide +kernel
theorem dL_branch_422 : decode cL_branch 422 = .ok (.imul, 1) := by decide +kernel
theorem dL_branch_423 : decode cL_branch 423 = .ok (.bipush 6, 2) := by decide +kernel
theorem dL_branch_425 : decode cL_branch 425 = .ok (.iadd, 1) := by decide +kernel
theorem dL_branch_426 : decode cL_branch 426 = .ok (.aload_n 3, 1) := by decide +kernel
theorem dL_branch_427 : decode cL_branch 427 = .ok (.bipush 10, 2) := by decide +kernel
theorem dL_branch_429 : decode cL_branch 429 = .ok (.iload 11, 2) := by decide +kernel
theorem dL_branch_431 : decode cL_branch 431 = .ok (.imul, 1) := by decide +kernel
theorem dL_branch_432 : decode cL_branch 432 = .ok (.bipush 6, 2) := by decide +kernel
theorem dL_branch_434 : decode cL_branch 434 = .ok (.iadd, 1) := by decide +kernel
theorem dL_branch_435 : decode cL_branch 435 = .ok (.iaload, 1) := by decide +kernel
theorem dL_branch_436 : decode cL_branch 436 = .ok (.iconst 1, 1) := by decide +kernel
theorem dL_branch_437 : decode cL_branch 437 = .ok (.ishl, 1) := by decide +kernel
theorem dL_branch_438 : decode cL_branch 438 = .ok (.iload 12, 2) := by decide +kernel
theorem dL_branch_440 : decode cL_branch 440 = .ok (.ifCond .eq 7, 3) := by decide +kernel
theorem dL_branch_443 : decode cL_branch 443 = .ok (.iconst 1, 1) := by decide +kernel
theorem dL_branch_444 : decode cL_branch 444 = .ok (.goto 4, 3) := by decide +kernel
theorem dL_branch_447 : decode cL_branch 447 = .ok (.iconst 0, 1) := by decide +kernel
theorem dL_branch_448 : decode cL_branch 448 = .ok (.ior, 1) := by decide +kernel
theorem dL_branch_449 : decode cL_branch 449 = .ok (.ldc 37, 2) := by decide +kernel
theorem dL_branch_451 : decode cL_branch 451 = .ok (.iand, 1) := by decide +kernel
theorem dL_branch_452 : decode cL_branch 452 = .ok (.iastore, 1) := by decide +kernel
theorem dL_branch_453 : decode cL_branch 453 = .ok (.aload_n 3, 1) := by decide +kernel
theorem dL_branch_454 : decode cL_branch 454 = .ok (.bipush 10, 2) := by decide +kernel
theorem dL_branch_456 : decode cL_branch 456 = .ok (.iload 11, 2) := by decide +kernel
theorem dL_branch_458 : decode cL_branch 458 = .ok (.imul, 1) := by decide +kernel
theorem dL_branch_459 : decode cL_branch 459 = .ok (.bipush 7, 2) := by decide +kernel
theorem dL_branch_461 : decode cL_branch 461 = .ok (.iadd, 1) := by decide +kernel
theorem dL_branch_462 : decode cL_branch 462 = .ok (.dup2, 1) := by decide +kernel
theorem dL_branch_463 : decode cL_branch 463 = .ok (.iaload, 1) := by decide +kernel
theorem dL_branch_464 : decode cL_branch 464 = .ok (.aload 6, 2) := by decide +kernel
theorem dL_branch_466 : decode cL_branch 466 = .ok (.bipush 10, 2) := by decide +kernel
theorem dL_branch_468 : decode cL_branch 468 = .ok (.iload 11, 2) := by decide +kernel
theorem dL_branch_470 : decode cL_branch 470 = .ok (.iadd, 1) := by decide +kernel
theorem dL_branch_471 : decode cL_branch 471 = .ok (.iaload, 1) := by decide +kernel
theorem dL_branch_472 : decode cL_branch 472 = .ok (.ifCond .le 19, 3) := by decide +kernel
theorem dL_branch_475 : decode cL_branch 475 = .ok (.aload_n 3, 1) := by decide +kernel
theorem dL_branch_476 : decode cL_branch 476 = .ok (.bipush 10, 2) := by decide +kernel
theorem dL_branch_478 : decode cL_branch 478 = .ok (.iload 11, 2) := by decide +kernel
theorem dL_branch_480 : decode cL_branch 480 = .ok (.imul, 1) := by decide +kernel
theorem dL_branch_481 : decode cL_branch 481 = .ok (.iconst 2, 1) := by decide +kernel
theorem dL_branch_482 : decode cL_branch 482 = .ok (.iadd, 1) := by decide +kernel
theorem dL_branch_483 : decode cL_branch 483 = .ok (.iaload, 1) := by decide +kernel
theorem dL_branch_484 : decode cL_branch 484 = .ok (.ifCond .ne 7, 3) := by decide +kernel
theorem dL_branch_487 : decode cL_branch 487 = .ok (.iconst 1, 1) := by decide +kernel
theorem dL_branch_488 : decode cL_branch 488 = .ok (.goto 4, 3) := by decide +kernel
theorem dL_branch_491 : decode cL_branch 491 = .ok (.iconst 0, 1) := by decide +kernel
theorem dL_branch_492 : decode cL_branch 492 = .ok (.iadd, 1) := by decide +kernel
theorem dL_branch_493 : decode cL_branch 493 = .ok (.iastore, 1) := by decide +kernel
theorem dL_branch_494 : decode cL_branch 494 = .ok (.iload 11, 2) := by decide +kernel
theorem dL_branch_496 : decode cL_branch 496 = .ok (.aload_n 3, 1) := by decide +kernel
theorem dL_branch_497 : decode cL_branch 497 = .ok (.invokestatic 24, 3) := by decide +kernel
theorem dL_branch_500 : decode cL_branch 500 = .ok (.ifCond .ne 6, 3) := by decide +kernel
theorem dL_branch_503 : decode cL_branch 503 = .ok (.goto 62, 3) := by decide +kernel
theorem dL_branch_506 : decode cL_branch 506 = .ok (.bipush 8, 2) := by decide +kernel
theorem dL_branch_508 : decode cL_branch 508 = .ok (.iload 11, 2) := by decide +kernel
theorem dL_branch_510 : decode cL_branch 510 = .ok (.imul, 1) := by decide +kernel
theorem dL_branch_511 : decode cL_branch 511 = .ok (.iload 11, 2) := by decide +kernel
theorem dL_branch_513 : decode cL_branch 513 = .ok (.iload_n 0, 1) := by decide +kernel
theorem dL_branch_514 : decode cL_branch 514 = .ok (.aload_n 2, 1) := by decide +kernel
theorem dL_branch_515 : decode cL_branch 515 = .ok (.aload_n 3, 1) := by decide +kernel
theorem dL_branch_516 : decode cL_branch 516 = .ok (.invokestatic 10, 3) := by decide +kernel
theorem dL_branch_519 : decode cL_branch 519 = .ok (.iadd, 1) := by decide +kernel
theorem dL_branch_520 : decode cL_branch 520 = .ok (.istore 12, 2) := by decide +kernel
theorem dL_branch_522 : decode cL_branch 522 = .ok (.aload 4, 2) := by decide +kernel
theorem dL_branch_524 : decode cL_branch 524 = .ok (.iload 12, 2) := by decide +kernel
theorem dL_branch_526 : decode cL_branch 526 = .ok (.dup2, 1) := by decide +kernel
theorem dL_branch_527 : decode cL_branch 527 = .ok (.iaload, 1) := by decide +kernel
theorem dL_branch_528 : decode cL_branch 528 = .ok (.iload_n 1, 1) := by decide +kernel
theorem dL_branch_529 : decode cL_branch 529 = .ok (.iconst 1, 1) := by decide +kernel
theorem dL_branch_530 : decode cL_branch 530 = .ok (.if_icmp .ne 16, 3) := by decide +kernel
theorem dL_branch_533 : decode cL_branch 533 = .ok (.aload 4, 2) := by decide +kernel
theorem dL_branch_535 : decode cL_branch 535 = .ok (.iload 12, 2) := by decide +kernel
theorem dL_branch_537 : decode cL_branch 537 = .ok (.iaload, 1) := by decide +kernel
theorem dL_branch_538 : decode cL_branch 538 = .ok (.iconst 3, 1) := by decide +kernel
theorem dL_branch_539 : decode cL_branch 539 = .ok (.if_icmp .ge 7, 3) := by decide +kernel
theorem dL_branch_542 : decode cL_branch 542 = .ok (.iconst 1, 1) := by decide +kernel
theorem dL_branch_543 : decode cL_branch 543 = .ok (.goto 20, 3) := by decide +kernel
theorem dL_branch_546 : decode cL_branch 546 = .ok (.iload_n 1, 1) := by decide +kernel
theorem dL_branch_547 : decode cL_branch 547 = .ok (.ifCond .ne 15, 3) := by decide +kernel
theorem dL_branch_550 : decode cL_branch 550 = .ok (.aload 4, 2) := by decide +kernel
theorem dL_branch_552 : decode cL_branch 552 = .ok (.iload 12, 2) := by decide +kernel
theorem dL_branch_554 : decode cL_branch 554 = .ok (.iaload, 1) := by decide +kernel
theorem dL_branch_555 : decode cL_branch 555 = .ok (.ifCond .le 7, 3) := by decide +kernel
theorem dL_branch_558 : decode cL_branch 558 = .ok (.iconst (-1), 1) := by decide +kernel
theorem dL_branch_559 : decode cL_branch 559 = .ok (.goto 4, 3) := by decide +kernel
theorem dL_branch_562 : decode cL_branch 562 = .ok (.iconst 0, 1) := by decide +kernel
theorem dL_branch_563 : decode cL_branch 563 = .ok (.iadd, 1) := by decide +kernel
theorem dL_branch_564 : decode cL_branch 564 = .ok (.iastore, 1) := by decide +kernel
theorem dL_branch_565 : decode cL_branch 565 = .ok (.iinc 11 1, 3) := by decide +kernel
theorem dL_branch_568 : decode cL_branch 568 = .ok (.goto (-240), 3) := by decide +kernel
theorem dL_branch_571 : decode cL_branch 571 = .ok (.aload_n 2, 1) := by decide +kernel
theorem dL_branch_572 : decode cL_branch 572 = .ok (.iconst 3, 1) := by decide +kernel
theorem dL_branch_573 : decode cL_branch 573 = .ok (.aload_n 2, 1) := by decide +kernel
theorem dL_branch_574 : decode cL_branch 574 = .ok (.iconst 3, 1) := by decide +kernel
theorem dL_branch_575 : decode cL_branch 575 = .ok (.iaload, 1) := by decide +kernel
theorem dL_branch_576 : decode cL_branch 576 = .ok (.iconst 1, 1) := by decide +kernel
theorem dL_branch_577 : decode cL_branch 577 = .ok (.ishl, 1) := by decide +kernel
theorem dL_branch_578 : decode cL_branch 578 = .ok (.iload_n 1, 1) := by decide +kernel
theorem dL_branch_579 : decode cL_branch 579 = .ok (.ior, 1) := by decide +kernel
theorem dL_branch_580 : decode cL_branch 580 = .ok (.sipush 255, 3) := by decide +kernel
theorem dL_branch_583 : decode cL_branch 583 = .ok (.iand, 1) := by decide +kernel
theorem dL_branch_584 : decode cL_branch 584 = .ok (.iastore, 1) := by decide +kernel
theorem dL_branch_585 : decode cL_branch 585 = .ok (.aload_n 2, 1) := by decide +kernel
theorem dL_branch_586 : decode cL_branch 586 = .ok (.iconst 5, 1) := by decide +kernel
theorem dL_branch_587 : decode cL_branch 587 = .ok (.dup2, 1) := by decide +kernel
theorem dL_branch_588 : decode cL_branch 588 = .ok (.iaload, 1) := by decide +kernel
theorem dL_branch_589 : decode cL_branch 589 = .ok (.iconst 1, 1) := by decide +kernel
theorem dL_branch_590 : decode cL_branch 590 = .ok (.iadd, 1) := by decide +kernel
theorem dL_branch_591 : decode cL_branch 591 = .ok (.iastore, 1) := by decide +kernel
theorem dL_branch_592 : decode cL_branch 592 = .ok (.iload 9, 2) := by decide +kernel
theorem dL_branch_594 : decode cL_branch 594 = .ok (.ifCond .eq 8, 3) := by decide +kernel
theorem dL_branch_597 : decode cL_branch 597 = .ok (.iload 7, 2) := by decide +kernel
theorem dL_branch_599 : decode cL_branch 599 = .ok (.goto 4, 3) := by decide +kernel
theorem dL_branch_602 : decode cL_branch 602 = .ok (.iconst 0, 1) := by decide +kernel
theorem dL_branch_603 : decode cL_branch 603 = .ok (.ireturn, 1) := by decide +kernel
theorem dL_same_0 : decode cL_same 0 = .ok (.aload_n 2, 1) := by decide +kernel
theorem dL_same_1 : decode cL_same 1 = .ok (.iconst 4, 1) := by decide +kernel
theorem dL_same_2 : decode cL_same 2 = .ok (.iaload, 1) := by decide +kernel
theorem dL_same_3 : decode cL_same 3 = .ok (.istore 6, 2) := by decide +kernel
theorem dL_same_5 : decode cL_same 5 = .ok (.iconst 0, 1) := by decide +kernel
theorem dL_same_6 : decode cL_same 6 = .ok (.istore 7, 2) := by decide +kernel
theorem dL_same_8 : decode cL_same 8 = .ok (.iconst 0, 1) := by decide +kernel
theorem dL_same_9 : decode cL_same 9 = .ok (.istore 8, 2) := by decide +kernel
theorem dL_same_11 : decode cL_same 11 = .ok (.iconst 0, 1) := by decide +kernel
theorem dL_same_12 : decode cL_same 12 = .ok (.istore 9, 2) := by decide +kernel
theorem dL_same_14 : decode cL_same 14 = .ok (.iload 9, 2) := by decide +kernel
theorem dL_same_16 : decode cL_same 16 = .ok (.iconst 5, 1) := by decide +kernel
theorem dL_same_17 : decode cL_same 17 = .ok (.if_icmp .ge 601, 3) := by decide +kernel
theorem dL_same_20 : decode cL_same 20 = .ok (.bipush 10, 2) := by decide +kernel
theorem dL_same_22 : decode cL_same 22 = .ok (.iload 9, 2) := by decide +kernel
theorem dL_same_24 : decode cL_same 24 = .ok (.imul, 1) := by decide +kernel
theorem dL_same_25 : decode cL_same 25 = .ok (.istore 10, 2) := by decide +kernel
theorem dL_same_27 : decode cL_same 27 = .ok (.iconst 0, 1) := by decide +kernel
theorem dL_same_28 : decode cL_same 28 = .ok (.istore 11, 2) := by decide +kernel
theorem dL_same_30 : decode cL_same 30 = .ok (.iconst 0, 1) := by decide +kernel
theorem dL_same_31 : decode cL_same 31 = .ok (.istore 12, 2) := by decide +kernel
theorem dL_same_33 : decode cL_same 33 = .ok (.iconst 0, 1) := by decide +kernel
theorem dL_same_34 : decode cL_same 34 = .ok (.istore 13, 2) := by decide +kernel
theorem dL_same_36 : decode cL_same 36 = .ok (.iload 13, 2) := by decide +kernel
theorem dL_same_38 : decode cL_same 38 = .ok (.aload_n 2, 1) := by decide +kernel
theorem dL_same_39 : decode cL_same 39 = .ok (.bipush 7, 2) := by decide +kernel
theorem dL_same_41 : decode cL_same 41 = .ok (.iaload, 1) := by decide +kernel
theorem dL_same_42 : decode cL_same 42 = .ok (.if_icmp .ge 71, 3) := by decide +kernel
theorem dL_same_45 : decode cL_same 45 = .ok (.iload 11, 2) := by decide +kernel
theorem dL_same_47 : decode cL_same 47 = .ok (.aload 5, 2) := by decide +kernel
theorem dL_same_49 : decode cL_same 49 = .ok (.iconst 3, 1) := by decide +kernel
theorem dL_same_50 : decode cL_same 50 = .ok (.iload 13, 2) := by decide +kernel
theorem dL_same_52 : decode cL_same 52 = .ok (.imul, 1) := by decide +kernel
theorem dL_same_53 : decode cL_same 53 = .ok (.iconst 1, 1) := by decide +kernel
theorem dL_same_54 : decode cL_same 54 = .ok (.iadd, 1) := by decide +kernel
theorem dL_same_55 : decode cL_same 55 = .ok (.iaload, 1) := by decide +kernel
theorem dL_same_56 : decode cL_same 56 = .ok (.iload 9, 2) := by decide +kernel
theorem dL_same_58 : decode cL_same 58 = .ok (.if_icmp .ne 15, 3) := by decide +kernel
theorem dL_same_61 : decode cL_same 61 = .ok (.aload 5, 2) := by decide +kernel
theorem dL_same_63 : decode cL_same 63 = .ok (.iconst 3, 1) := by decide +kernel
theorem dL_same_64 : decode cL_same 64 = .ok (.iload 13, 2) := by decide +kernel
theorem dL_same_66 : decode cL_same 66 = .ok (.imul, 1) := by decide +kernel
theorem dL_same_67 : decode cL_same 67 = .ok (.iconst 2, 1) := by decide +kernel
theorem dL_same_68 : decode cL_same 68 = .ok (.iadd, 1) := by decide +kernel
theorem dL_same_69 : decode cL_same 69 = .ok (.iaload, 1) := by decide +kernel
theorem dL_same_70 : decode cL_same 70 = .ok (.goto 4, 3) := by decide +kernel
theorem dL_same_73 : decode cL_same 73 = .ok (.iconst 0, 1) := by decide +kernel
theorem dL_same_74 : decode cL_same 74 = .ok (.iadd, 1) := by decide +kernel
theorem dL_same_75 : decode cL_same 75 = .ok (.istore 11, 2) := by decide +kernel
theorem dL_same_77 : decode cL_same 77 = .ok (.iload 12, 2) := by decide +kernel
theorem dL_same_79 : decode cL_same 79 = .ok (.aload 5, 2) := by decide +kernel
theorem dL_same_81 : decode cL_same 81 = .ok (.iconst 3, 1) := by decide +kernel
theorem dL_same_82 : decode cL_same 82 = .ok (.iload 13, 2) := by decide +kernel
theorem dL_same_84 : decode cL_same 84 = .ok (.imul, 1) := by decide +kernel
theorem dL_same_85 : decode cL_same 85 = .ok (.iaload, 1) := by decide +kernel
theorem dL_same_86 : decode cL_same 86 = .ok (.iload 9, 2) := by decide +kernel
theorem dL_same_88 : decode cL_same 88 = .ok (.if_icmp .ne 15, 3) := by decide +kernel
theorem dL_same_91 : decode cL_same 91 = .ok (.aload 5, 2) := by decide +kernel
theorem dL_same_93 : decode cL_same 93 = .ok (.iconst 3, 1) := by decide +kernel
theorem dL_same_94 : decode cL_same 94 = .ok (.iload 13, 2) := by decide +kernel
theorem dL_same_96 : decode cL_same 96 = .ok (.imul, 1) := by decide +kernel
theorem dL_same_97 : decode cL_same 97 = .ok (.iconst 2, 1) := by decide +kernel
theorem dL_same_98 : decode cL_same 98 = .ok (.iadd, 1) := by decide +kernel
theorem dL_same_99 : decode cL_same 99 = .ok (.iaload, 1) := by decide +kernel
theorem dL_same_100 : decode cL_same 100 = .ok (.goto 4, 3) := by decide +kernel
theorem dL_same_103 : decode cL_same 103 = .ok (.iconst 0, 1) := by decide +kernel
theorem dL_same_104 : decode cL_same 104 = .ok (.iadd, 1) := by decide +kernel
theorem dL_same_105 : decode cL_same 105 = .ok (.istore 12, 2) := by decide +kernel
theorem dL_same_107 : decode cL_same 107 = .ok (.iinc 13 1, 3) := by decide +kernel
theorem dL_same_110 : decode cL_same 110 = .ok (.goto (-74), 3) := by decide +kernel
theorem dL_same_113 : decode cL_same 113 = .ok (.aload_n 0, 1) := by decide +kernel
theorem dL_same_114 : decode cL_same 114 = .ok (.iload 9, 2) := by decide +kernel
theorem dL_same_116 : decode cL_same 116 = .ok (.iconst 2, 1) := by decide +kernel
theorem dL_same_117 : decode cL_same 117 = .ok (.invokevirtual 38, 3) := by decide +kernel
theorem dL_same_120 : decode cL_same 120 = .ok (.aload_n 3, 1) := by decide +kernel
theorem dL_same_121 : decode cL_same 121 = .ok (.iload 10, 2) := by decide +kernel
theorem dL_same_123 : decode cL_same 123 = .ok (.iconst 2, 1) := by decide +kernel
theorem dL_same_124 : decode cL_same 124 = .ok (.iadd, 1) := by decide +kernel
theorem dL_same_125 : decode cL_same 125 = .ok (.iaload, 1) := by decide +kernel
theorem dL_same_126 : decode cL_same 126 = .ok (.if_icmp .ne 128, 3) := by decide +kernel
theorem dL_same_129 : decode cL_same 129 = .ok (.aload_n 0, 1) := by decide +kernel
theorem dL_same_130 : decode cL_same 130 = .ok (.iload 9, 2) := by decide +kernel
theorem dL_same_132 : decode cL_same 132 = .ok (.iconst 3, 1) := by decide +kernel
theorem dL_same_133 : decode cL_same 133 = .ok (.invokevirtual 38, 3) := by decide +kernel
theorem dL_same_136 : decode cL_same 136 = .ok (.aload_n 3, 1) := by decide +kernel
theorem dL_same_137 : decode cL_same 137 = .ok (.iload 10, 2) := by decide +kernel
theorem dL_same_139 : decode cL_same 139 = .ok (.iconst 3, 1) := by decide +kernel
theorem dL_same_140 : decode cL_same 140 = .ok (.iadd, 1) := by decide +kernel
theorem dL_same_141 : decode cL_same 141 = .ok (.iaload, 1) := by decide +kernel
theorem dL_same_142 : decode cL_same 142 = .ok (.ifCond .ge 8, 3) := by decide +kernel
theorem dL_same_145 : decode cL_same 145 = .ok (.ldc 44, 2) := by decide +kernel
theorem dL_same_147 : decode cL_same 147 = .ok (.goto 9, 3) := by decide +kernel
theorem dL_same_150 : decode cL_same 150 = .ok (.aload_n 3, 1) := by decide +kernel
theorem dL_same_151 : decode cL_same 151 = .ok (.iload 10, 2) := by decide +kernel
theorem dL_same_153 : decode cL_same 153 = .ok (.iconst 3, 1) := by decide +kernel
theorem dL_same_154 : decode cL_same 154 = .ok (.iadd, 1) := by decide +kernel
theorem dL_same_155 : decode cL_same 155 = .ok (.iaload, 1) := by decide +kernel
theorem dL_same_156 : decode cL_same 156 = .ok (.if_icmp .ne 98, 3) := by decide +kernel
theorem dL_same_159 : decode cL_same 159 = .ok (.aload_n 0, 1) := by decide +kernel
theorem dL_same_160 : decode cL_same 160 = .ok (.iload 9, 2) := by decide +kernel
theorem dL_same_162 : decode cL_same 162 = .ok (.iconst 5, 1) := by decide +kernel
theorem dL_same_163 : decode cL_same 163 = .ok (.invokevirtual 38, 3) := by decide +kernel
theorem dL_same_166 : decode cL_same 166 = .ok (.aload_n 3, 1) := by decide +kernel
theorem dL_same_167 : decode cL_same 167 = .ok (.iload 10, 2) := by decide +kernel
theorem dL_same_169 : decode cL_same 169 = .ok (.iconst 4, 1) := by decide +kernel
theorem dL_same_170 : decode cL_same 170 = .ok (.iadd, 1) := by decide +kernel
theorem dL_same_171 : decode cL_same 171 = .ok (.iaload, 1) := by decide +kernel
theorem dL_same_172 : decode cL_same 172 = .ok (.if_icmp .ne 82, 3) := by decide +kernel
theorem dL_same_175 : decode cL_same 175 = .ok (.aload_n 0, 1) := by decide +kernel
theorem dL_same_176 : decode cL_same 176 = .ok (.iload 9, 2) := by decide +kernel
theorem dL_same_178 : decode cL_same 178 = .ok (.bipush 6, 2) := by decide +kernel
theorem dL_same_180 : decode cL_same 180 = .ok (.invokevirtual 38, 3) := by decide +kernel
theorem dL_same_183 : decode cL_same 183 = .ok (.aload_n 3, 1) := by decide +kernel
theorem dL_same_184 : decode cL_same 184 = .ok (.iload 10, 2) := by decide +kernel
theorem dL_same_186 : decode cL_same 186 = .ok (.iconst 5, 1) := by decide +kernel
theorem dL_same_187 : decode cL_same 187 = .ok (.iadd, 1) := by decide +kernel
theorem dL_same_188 : decode cL_same 188 = .ok (.iaload, 1) := by decide +kernel
theorem dL_same_189 : decode cL_same 189 = .ok (.if_icmp .ne 65, 3) := by decide +kernel
theorem dL_same_192 : decode cL_same 192 = .ok (.aload_n 0, 1) := by decide +kernel
theorem dL_same_193 : decode cL_same 193 = .ok (.iload 9, 2) := by decide +kernel
theorem dL_same_195 : decode cL_same 195 = .ok (.bipush 7, 2) := by decide +kernel
theorem dL_same_197 : decode cL_same 197 = .ok (.invokevirtual 38, 3) := by decide +kernel
theorem dL_same_200 : decode cL_same 200 = .ok (.aload_n 3, 1) := by decide +kernel
theorem dL_same_201 : decode cL_same 201 = .ok (.iload 10, 2) := by decide +kernel
theorem dL_same_203 : decode cL_same 203 = .ok (.bipush 6, 2) := by decide +kernel
theorem dL_same_205 : decode cL_same 205 = .ok (.iadd, 1) := by decide +kernel
theorem dL_same_206 : decode cL_same 206 = .ok (.iaload, 1) := by decide +kernel
theorem dL_same_207 : decode cL_same 207 = .ok (.if_icmp .ne 47, 3) := by decide +kernel
theorem dL_same_210 : decode cL_same 210 = .ok (.aload_n 0, 1) := by decide +kernel
theorem dL_same_211 : decode cL_same 211 = .ok (.iload 9, 2) := by decide +kernel
theorem dL_same_213 : decode cL_same 213 = .ok (.bipush 8, 2) := by decide +kernel
theorem dL_same_215 : decode cL_same 215 = .ok (.invokevirtual 38, 3) := by decide +kernel
theorem dL_same_218 : decode cL_same 218 = .ok (.aload_n 3, 1) := by decide +kernel
theorem dL_same_219 : decode cL_same 219 = .ok (.iload 10, 2) := by decide +kernel
theorem dL_same_221 : decode cL_same 221 = .ok (.bipush 7, 2) := by decide +kernel
theorem dL_same_223 : decode cL_same 223 = .ok (.iadd, 1) := by decide +kernel
theorem dL_same_224 : decode cL_same 224 = .ok (.iaload, 1) := by decide +kernel
theorem dL_same_225 : decode cL_same 225 = .ok (.if_icmp .ne 29, 3) := by decide +kernel
theorem dL_same_228 : decode cL_same 228 = .ok (.aload_n 0, 1) := by decide +kernel
theorem dL_same_229 : decode cL_same 229 = .ok (.iload 9, 2) := by decide +kernel
theorem dL_same_231 : decode cL_same 231 = .ok (.bipush 9, 2) := by decide +kernel
theorem dL_same_233 : decode cL_same 233 = .ok (.invokevirtual 38, 3) := by decide +kernel
theorem dL_same_236 : decode cL_same 236 = .ok (.iload 11, 2) := by decide +kernel
theorem dL_same_238 : decode cL_same 238 = .ok (.if_icmp .ne 16, 3) := by decide +kernel
theorem dL_same_241 : decode cL_same 241 = .ok (.aload_n 0, 1) := by decide +kernel
theorem dL_same_242 : decode cL_same 242 = .ok (.iload 9, 2) := by decide +kernel
theorem dL_same_244 : decode cL_same 244 = .ok (.bipush 10, 2) := by decide +kernel
theorem dL_same_246 : decode cL_same 246 = .ok (.invokevirtual 38, 3) := by decide +kernel
theorem dL_same_249 : decode cL_same 249 = .ok (.iload 12, 2) := by decide +kernel
theorem dL_same_251 : decode cL_same 251 = .ok (.if_icmp .eq 5, 3) := by decide +kernel
theorem dL_same_254 : decode cL_same 254 = .ok (.iconst 0, 1) := by decide +kernel
theorem dL_same_255 : decode cL_same 255 = .ok (.ireturn, 1) := by decide +kernel
theorem dL_same_256 : decode cL_same 256 = .ok (.aload_n 0, 1) := by decide +kernel
theorem dL_same_257 : decode cL_same 257 = .ok (.iload 9, 2) := by decide +kernel
theorem dL_same_259 : decode cL_same 259 = .ok (.iload_n 1, 1) := by decide +kernel
theorem dL_same_260 : decode cL_same 260 = .ok (.invokevirtual 45, 3) := by decide +kernel
theorem dL_same_263 : decode cL_same 263 = .ok (.iload 9, 2) := by decide +kernel
theorem dL_same_265 : decode cL_same 265 = .ok (.iload_n 1, 1) := by decide +kernel
theorem dL_same_266 : decode cL_same 266 = .ok (.aload_n 2, 1) := by decide +kernel
theorem dL_same_267 : decode cL_same 267 = .ok (.aload_n 3, 1) := by decide +kernel
theorem dL_same_268 : decode cL_same 268 = .ok (.aload 4, 2) := by decide +kernel
theorem dL_same_270 : decode cL_same 270 = .ok (.invokestatic 27, 3) := by decide +kernel
theorem dL_same_273 : decode cL_same 273 = .ok (.if_icmp .ne 23, 3) := by decide +kernel
theorem dL_same_276 : decode cL_same 276 = .ok (.aload_n 0, 1) := by decide +kernel
theorem dL_same_277 : decode cL_same 277 = .ok (.iload 9, 2) := by decide +kernel
theorem dL_same_279 : decode cL_same 279 = .ok (.iload_n 1, 1) := by decide +kernel
theorem dL_same_280 : decode cL_same 280 = .ok (.invokevirtual 47, 3) := by decide +kernel
theorem dL_same_283 : decode cL_same 283 = .ok (.iload 9, 2) := by decide +kernel
theorem dL_same_285 : decode cL_same 285 = .ok (.iload_n 1, 1) := by decide +kernel
theorem dL_same_286 : decode cL_same 286 = .ok (.aload_n 2, 1) := by decide +kernel
theorem dL_same_287 : decode cL_same 287 = .ok (.aload_n 3, 1) := by decide +kernel
theorem dL_same_288 : decode cL_same 288 = .ok (.aload 4, 2) := by decide +kernel
theorem dL_same_290 : decode cL_same 290 = .ok (.invokestatic 30, 3) := by decide +kernel
theorem dL_same_293 : decode cL_same 293 = .ok (.if_icmp .eq 5, 3) := by decide +kernel
theorem dL_same_296 : decode cL_same 296 = .ok (.iconst 0, 1) := by decide +kernel
theorem dL_same_297 : decode cL_same 297 = .ok (.ireturn, 1) := by decide +kernel
theorem dL_same_298 : decode cL_same 298 = .ok (.iconst 0, 1) := by decide +kernel
theorem dL_same_299 : decode cL_same 299 = .ok (.istore 13, 2) := by decide +kernel
theorem dL_same_301 : decode cL_same 301 = .ok (.iload 13, 2) := by decide +kernel
theorem dL_same_303 : decode cL_same 303 = .ok (.bipush 8, 2) := by decide +kernel
theorem dL_same_305 : decode cL_same 305 = .ok (.if_icmp .ge 60, 3) := by decide +kernel
theorem dL_same_308 : decode cL_same 308 = .ok (.aload_n 0, 1) := by decide +kernel
theorem dL_same_309 : decode cL_same 309 = .ok (.iload 9, 2) := by decide +kernel
theorem dL_same_311 : decode cL_same 311 = .ok (.iload 13, 2) := by decide +kernel
theorem dL_same_313 : decode cL_same 313 = .ok (.invokevirtual 49, 3) := by decide +kernel
theorem dL_same_316 : decode cL_same 316 = .ok (.iload 9, 2) := by decide +kernel
theorem dL_same_318 : decode cL_same 318 = .ok (.aload_n 3, 1) := by decide +kernel
theorem dL_same_319 : decode cL_same 319 = .ok (.invokestatic 24, 3) := by decide +kernel
theorem dL_same_322 : decode cL_same 322 = .ok (.ifCond .eq 30, 3) := by decide +kernel
theorem dL_same_325 : decode cL_same 325 = .ok (.iload 13, 2) := by decide +kernel
theorem dL_same_327 : decode cL_same 327 = .ok (.iconst 1, 1) := by decide +kernel
theorem dL_same_328 : decode cL_same 328 = .ok (.aload_n 3, 1) := by decide +kernel
theorem dL_same_329 : decode cL_same 329 = .ok (.iload 10, 2) := by decide +kernel
theorem dL_same_331 : decode cL_same 331 = .ok (.iconst 1, 1) := by decide +kernel
theorem dL_same_332 : decode cL_same 332 = .ok (.iadd, 1) := by decide +kernel
theorem dL_same_333 : decode cL_same 333 = .ok (.iaload, 1) := by decide +kernel
theorem dL_same_334 : decode cL_same 334 = .ok (.ishl, 1) := by decide +kernel
theorem dL_same_335 : decode cL_same 335 = .ok (.if_icmp .ge 17, 3) := by decide +kernel
theorem dL_same_338 : decode cL_same 338 = .ok (.aload 4, 2) := by decide +kernel
theorem dL_same_340 : decode cL_same 340 = .ok (.bipush 8, 2) := by decide +kernel
theorem dL_same_342 : decode cL_same 342 = .ok (.iload 9, 2) := by decide +kernel
theorem dL_same_344 : decode cL_same 344 = .ok (.imul, 1) := by decide +kernel
theorem dL_same_345 : decode cL_same 345 = .ok (.iload 13, 2) := by decide +kernel
theorem dL_same_347 : decode cL_same 347 = .ok (.iadd, 1) := by decide +kernel
theorem dL_same_348 : decode cL_same 348 = .ok (.iaload, 1) := by decide +kernel
theorem dL_same_349 : decode cL_same 349 = .ok (.goto 5, 3) := by decide +kernel
theorem dL_same_352 : decode cL_same 352 = .ok (.ldc 44, 2) := by decide +kernel
theorem dL_same_354 : decode cL_same 354 = .ok (.if_icmp .eq 5, 3) := by decide +kernel
theorem dL_same_357 : decode cL_same 357 = .ok (.iconst 0, 1) := by decide +kernel
theorem dL_same_358 : decode cL_same 358 = .ok (.ireturn, 1) := by decide +kernel
theorem dL_same_359 : decode cL_same 359 = .ok (.iinc 13 1, 3) := by decide +kernel
theorem dL_same_362 : decode cL_same 362 = .ok (.goto (-61), 3) := by decide +kernel
theorem dL_same_365 : decode cL_same 365 = .ok (.iload 6, 2) := by decide +kernel
theorem dL_same_367 : decode cL_same 367 = .ok (.aload_n 3, 1) := by decide +kernel
theorem dL_same_368 : decode cL_same 368 = .ok (.iload 10, 2) := by decide +kernel
theorem dL_same_370 : decode cL_same 370 = .ok (.iconst 2, 1) := by decide +kernel
theorem dL_same_371 : decode cL_same 371 = .ok (.iadd, 1) := by decide +kernel
theorem dL_same_372 : decode cL_same 372 = .ok (.iaload, 1) := by decide +kernel
theorem dL_same_373 : decode cL_same 373 = .ok (.iadd, 1) := by decide +kernel
theorem dL_same_374 : decode cL_same 374 = .ok (.istore 6, 2) := by decide +kernel
theorem dL_same_376 : decode cL_same 376 = .ok (.iload 7, 2) := by decide +kernel
theorem dL_same_378 : decode cL_same 378 = .ok (.iload 9, 2) := by decide +kernel
theorem dL_same_380 : decode cL_same 380 = .ok (.iload_n 1, 1) := by decide +kernel
theorem dL_same_381 : decode cL_same 381 = .ok (.aload_n 2, 1) := by decide +kernel
theorem dL_same_382 : decode cL_same 382 = .ok (.aload_n 3, 1) := by decide +kernel
theorem dL_same_383 : decode cL_same 383 = .ok (.aload 4, 2) := by decide +kernel
theorem dL_same_385 : decode cL_same 385 = .ok (.invokestatic 30, 3) := by decide +kernel
theorem dL_same_388 : decode cL_same 388 = .ok (.iadd, 1) := by decide +kernel
theorem dL_same_389 : decode cL_same 389 = .ok (.istore 7, 2) := by decide +kernel
theorem dL_same_391 : decode cL_same 391 = .ok (.iload 8, 2) := by decide +kernel
theorem dL_same_393 : decode cL_same 393 = .ok (.iload 9, 2) := by decide +kernel
theorem dL_same_395 : decode cL_same 395 = .ok (.iload_n 1, 1) := by decide +kernel
theorem dL_same_396 : decode cL_same 396 = .ok (.aload_n 2, 1) := by decide +kernel
theorem dL_same_397 : decode cL_same 397 = .ok (.aload_n 3, 1) := by decide +kernel
theorem dL_same_398 : decode cL_same 398 = .ok (.aload 4, 2) := by decide +kernel
theorem dL_same_400 : decode cL_same 400 = .ok (.invokestatic 27, 3) := by decide +kernel
theorem dL_same_403 : decode cL_same 403 = .ok (.iconst 1, 1) := by decide +kernel
theorem dL_same_404 : decode cL_same 404 = .ok (.if_icmp .ne 16, 3) := by decide +kernel
theorem dL_same_407 : decode cL_same 407 = .ok (.iload 9, 2) := by decide +kernel
theorem dL_same_409 : decode cL_same 409 = .ok (.iload_n 1, 1) := by decide +kernel
theorem dL_same_410 : decode cL_same 410 = .ok (.aload_n 2, 1) := by decide +kernel
theorem dL_same_411 : decode cL_same 411 = .ok (.aload_n 3, 1) := by decide +kernel
theorem dL_same_412 : decode cL_same 412 = .ok (.aload 4, 2) := by decide +kernel
theorem dL_same_414 : decode cL_same 414 = .ok (.invokestatic 30, 3) := by decide +kernel
theorem dL_same_417 : decode cL_same 417 = .ok (.goto 4, 3) := by decide +kernel
theorem dL_same_420 : decode cL_same 420 = .ok (.iconst 0, 1) := by decide +kernel
theorem dL_same_421 : decode cL_same 421 = .ok (.iadd, 1) := by decide +kernel
theorem dL_same_422 : decode cL_same 422 = .ok (.istore 8, 2) := by decide +kernel
theorem dL_same_424 : decode cL_same 424 = .ok (.iconst 0, 1) := by decide +kernel
theorem dL_same_425 : decode cL_same 425 = .ok (.istore 13, 2) := by decide +kernel
theorem dL_same_427 : decode cL_same 427 = .ok (.iconst 0, 1) := by decide +kernel
theorem dL_same_428 : decode cL_same 428 = .ok (.istore 14, 2) := by decide +kernel
theorem dL_same_430 : decode cL_same 430 = .ok (.iload 14, 2) := by decide +kernel
theorem dL_same_432 : decode cL_same 432 = .ok (.iconst 5, 1) := by decide +kernel
theorem dL_same_433 : decode cL_same 433 = .ok (.if_icmp .ge 62, 3) := by decide +kernel
theorem dL_same_436 : decode cL_same 436 = .ok (.iload 13, 2) := by decide +kernel
theorem dL_same_438 : decode cL_same 438 = .ok (.aload_n 3, 1) := by decide +kernel
theorem dL_same_439 : decode cL_same 439 = .ok (.bipush 10, 2) := by decide +kernel
theorem dL_same_441 : decode cL_same 441 = .ok (.iload 14, 2) := by decide +kernel
theorem dL_same_443 : decode cL_same 443 = .ok (.imul, 1) := by decide +kernel
theorem dL_same_444 : decode cL_same 444 = .ok (.iconst 2, 1) := by decide +kernel
theorem dL_same_445 : decode cL_same 445 = .ok (.iadd, 1) := by decide +kernel
theorem dL_same_446 : decode cL_same 446 = .ok (.iaload, 1) := by decide +kernel
theorem dL_same_447 : decode cL_same 447 = .ok (.aload_n 3, 1) := by decide +kernel
theorem dL_same_448 : decode cL_same 448 = .ok (.iload 10, 2) := by decide +kernel
theorem dL_same_450 : decode cL_same 450 = .ok (.iconst 2, 1) := by decide +kernel
theorem dL_same_451 : decode cL_same 451 = .ok (.iadd, 1) := by decide +kernel
theorem dL_same_452 : decode cL_same 452 = .ok (.iaload, 1) := by decide +kernel
theorem dL_same_453 : decode cL_same 453 = .ok (.if_icmp .gt 28, 3) := by decide +kernel
theorem dL_same_456 : decode cL_same 456 = .ok (.aload_n 3, 1) := by decide +kernel
theorem dL_same_457 : decode cL_same 457 = .ok (.bipush 10, 2) := by decide +kernel
theorem dL_same_459 : decode cL_same 459 = .ok (.iload 14, 2) := by decide +kernel
theorem dL_same_461 : decode cL_same 461 = .ok (.imul, 1) := by decide +kernel
theorem dL_same_462 : decode cL_same 462 = .ok (.iconst 2, 1) := by decide +kernel
theorem dL_same_463 : decode cL_same 463 = .ok (.iadd, 1) := by decide +kernel
theorem dL_same_464 : decode cL_same 464 = .ok (.iaload, 1) := by decide +kernel
theorem dL_same_465 : decode cL_same 465 = .ok (.aload_n 3, 1) := by decide +kernel
theorem dL_same_466 : decode cL_same 466 = .ok (.iload 10, 2) := by decide +kernel
theorem dL_same_468 : decode cL_same 468 = .ok (.iconst 2, 1) := by decide +kernel
theorem dL_same_469 : decode cL_same 469 = .ok (.iadd, 1) := by decide +kernel
theorem dL_same_470 : decode cL_same 470 = .ok (.iaload, 1) := by decide +kernel
theorem dL_same_471 : decode cL_same 471 = .ok (.if_icmp .ne 14, 3) := by decide +kernel
theorem dL_same_474 : decode cL_same 474 = .ok (.iload 14, 2) := by decide +kernel
theorem dL_same_476 : decode cL_same 476 = .ok (.iload 9, 2) := by decide +kernel
theorem dL_same_478 : decode cL_same 478 = .ok (.if_icmp .ge 7, 3) := by decide +kernel
theorem dL_same_481 : decode cL_same 481 = .ok (.iconst 1, 1) := by decide +kernel
theorem dL_same_482 : decode cL_same 482 = .ok (.goto 4, 3) := by decide +kernel
theorem dL_same_485 : decode cL_same 485 = .ok (.iconst 0, 1) := by decide +kernel
theorem dL_same_486 : decode cL_same 486 = .ok (.iadd, 1) := by decide +kernel
theorem dL_same_487 : decode cL_same 487 = .ok (.istore 13, 2) := by decide +kernel
theorem dL_same_489 : decode cL_same 489 = .ok (.iinc 14 1, 3) := by decide +kernel
theorem dL_same_492 : decode cL_same 492 = .ok (.goto (-62), 3) := by decide +kernel
theorem dL_same_495 : decode cL_same 495 = .ok (.aload_n 0, 1) := by decide +kernel
theorem dL_same_496 : decode cL_same 496 = .ok (.iload 13, 2) := by decide +kernel
theorem dL_same_498 : decode cL_same 498 = .ok (.invokevirtual 52, 3) := by decide +kernel
theorem dL_same_501 : decode cL_same 501 = .ok (.iload 9, 2) := by decide +kernel
theorem dL_same_503 : decode cL_same 503 = .ok (.if_icmp .ne 107, 3) := by decide +kernel
theorem dL_same_506 : decode cL_same 506 = .ok (.aload_n 0, 1) := by decide +kernel
theorem dL_same_507 : decode cL_same 507 = .ok (.iload 9, 2) := by decide +kernel
theorem dL_same_509 : decode cL_same 509 = .ok (.invokevirtual 56, 3) := by decide +kernel
theorem dL_same_512 : decode cL_same 512 = .ok (.ldc 44, 2) := by decide +kernel
theorem dL_same_514 : decode cL_same 514 = .ok (.if_icmp .ne 7, 3) := by decide +kernel
theorem dL_same_517 : decode cL_same 517 = .ok (.iconst 1, 1) := by decide +kernel
theorem dL_same_518 : decode cL_same 518 = .ok (.goto 4, 3) := by decide +kernel
theorem dL_same_521 : decode cL_same 521 = .ok (.iconst 0, 1) := by decide +kernel
theorem dL_same_522 : decode cL_same 522 = .ok (.aload_n 3, 1) := by decide +kernel
theorem dL_same_523 : decode cL_same 523 = .ok (.iload 10, 2) := by decide +kernel
theorem dL_same_525 : decode cL_same 525 = .ok (.iconst 4, 1) := by decide +kernel
theorem dL_same_526 : decode cL_same 526 = .ok (.iadd, 1) := by decide +kernel
theorem dL_same_527 : decode cL_same 527 = .ok (.iaload, 1) := by decide +kernel
theorem dL_same_528 : decode cL_same 528 = .ok (.aload_n 3, 1) := by decide +kernel
theorem dL_same_529 : decode cL_same 529 = .ok (.iload 10, 2) := by decide +kernel
theorem dL_same_531 : decode cL_same 531 = .ok (.iconst 5, 1) := by decide +kernel
theorem dL_same_532 : decode cL_same 532 = .ok (.iadd, 1) := by decide +kernel
theorem dL_same_533 : decode cL_same 533 = .ok (.iaload, 1) := by decide +kernel
theorem dL_same_534 : decode cL_same 534 = .ok (.iadd, 1) := by decide +kernel
theorem dL_same_535 : decode cL_same 535 = .ok (.ifCond .ne 7, 3) := by decide +kernel
theorem dL_same_538 : decode cL_same 538 = .ok (.iconst 1, 1) := by decide +kernel
theorem dL_same_539 : decode cL_same 539 = .ok (.goto 4, 3) := by decide +kernel
theorem dL_same_542 : decode cL_same 542 = .ok (.iconst 0, 1) := by decide +kernel
theorem dL_same_543 : decode cL_same 543 = .ok (.if_icmp .ne 67, 3) := by decide +kernel
theorem dL_same_546 : decode cL_same 546 = .ok (.aload_n 3, 1) := by decide +kernel
theorem dL_same_547 : decode cL_same 547 = .ok (.iload 10, 2) := by decide +kernel
theorem dL_same_549 : decode cL_same 549 = .ok (.iconst 5, 1) := by decide +kernel
theorem dL_same_550 : decode cL_same 550 = .ok (.iadd, 1) := by decide +kernel
theorem dL_same_551 : decode cL_same 551 = .ok (.iaload, 1) := by decide +kernel
theorem dL_same_552 : decode cL_same 552 = .ok (.ifCond .ne 23, 3) := by decide +kernel
theorem dL_same_555 : decode cL_same 555 = .ok (.aload_n 3, 1) := by decide +kernel
theorem dL_same_556 : decode cL_same 556 = .ok (.iload 10, 2) := by decide +kernel
theorem dL_same_558 : decode cL_same 558 = .ok (.iconst 4, 1) := by decide +kernel
theorem dL_same_559 : decode cL_same 559 = .ok (.iadd, 1) := by decide +kernel
theorem dL_same_560 : decode cL_same 560 = .ok (.iaload, 1) := by decide +kernel
theorem dL_same_561 : decode cL_same 561 = .ok (.ifCond .le 14, 3) := by decide +kernel
theorem dL_same_564 : decode cL_same 564 = .ok (.aload_n 0, 1) := by decide +kernel
theorem dL_same_565 : decode cL_same 565 = .ok (.iload 9, 2) := by decide +kernel
theorem dL_same_567 : decode cL_same 567 = .ok (.invokevirtual 56, 3) := by decide +kernel
theorem dL_same_570 : decode cL_same 570 = .ok (.ldc 59, 2) := by decide +kernel
theorem dL_same_572 : decode cL_same 572 = .ok (.if_icmp .ne 38, 3) := by decide +kernel
theorem dL_same_575 : decode cL_same 575 = .ok (.aload_n 3, 1) := by decide +kernel
theorem dL_same_576 : decode cL_same 576 = .ok (.iload 10, 2) := by decide +kernel
theorem dL_same_578 : decode cL_same 578 = .ok (.iconst 4, 1) := by decide +kernel
theorem dL_same_579 : decode cL_same 579 = .ok (.iadd, 1) := by decide +kernel
theorem dL_same_580 : decode cL_same 580 = .ok (.iaload, 1) := by decide +kernel
theorem dL_same_581 : decode cL_same 581 = .ok (.aload_n 3, 1) := by decide +kernel
theorem dL_same_582 : decode cL_same 582 = .ok (.iload 10, 2) := by decide +kernel
theorem dL_same_584 : decode cL_same 584 = .ok (.iconst 5, 1) := by decide +kernel
theorem dL_same_585 : decode cL_same 585 = .ok (.iadd, 1) := by decide +kernel
theorem dL_same_586 : decode cL_same 586 = .ok (.iaload, 1) := by decide +kernel
theorem dL_same_587 : decode cL_same 587 = .ok (.if_icmp .ne 25, 3) := by decide +kernel
theorem dL_same_590 : decode cL_same 590 = .ok (.aload_n 3, 1) := by decide +kernel
theorem dL_same_591 : decode cL_same 591 = .ok (.iload 10, 2) := by decide +kernel
theorem dL_same_593 : decode cL_same 593 = .ok (.iconst 4, 1) := by decide +kernel
theorem dL_same_594 : decode cL_same 594 = .ok (.iadd, 1) := by decide +kernel
theorem dL_same_595 : decode cL_same 595 = .ok (.iaload, 1) := by decide +kernel
theorem dL_same_596 : decode cL_same 596 = .ok (.ifCond .le 16, 3) := by decide +kernel
theorem dL_same_599 : decode cL_same 599 = .ok (.aload_n 0, 1) := by decide +kernel
theorem dL_same_600 : decode cL_same 600 = .ok (.iload 9, 2) := by decide +kernel
theorem dL_same_602 : decode cL_same 602 = .ok (.invokevirtual 56, 3) := by decide +kernel
theorem dL_same_605 : decode cL_same 605 = .ok (.ldc 60, 2) := by decide +kernel
theorem dL_same_607 : decode cL_same 607 = .ok (.if_icmp .eq 5, 3) := by decide +kernel
theorem dL_same_610 : decode cL_same 610 = .ok (.iconst 0, 1) := by decide +kernel
theorem dL_same_611 : decode cL_same 611 = .ok (.ireturn, 1) := by decide +kernel
theorem dL_same_612 : decode cL_same 612 = .ok (.iinc 9 1, 3) := by decide +kernel
theorem dL_same_615 : decode cL_same 615 = .ok (.goto (-601), 3) := by decide +kernel
theorem dL_same_618 : decode cL_same 618 = .ok (.aload_n 0, 1) := by decide +kernel
theorem dL_same_619 : decode cL_same 619 = .ok (.iload_n 1, 1) := by decide +kernel
theorem dL_same_620 : decode cL_same 620 = .ok (.invokevirtual 61, 3) := by decide +kernel
theorem dL_same_623 : decode cL_same 623 = .ok (.istore 9, 2) := by decide +kernel
theorem dL_same_625 : decode cL_same 625 = .ok (.iload 7, 2) := by decide +kernel
theorem dL_same_627 : decode cL_same 627 = .ok (.ifCond .ne 13, 3) := by decide +kernel
theorem dL_same_630 : decode cL_same 630 = .ok (.iload 9, 2) := by decide +kernel
theorem dL_same_632 : decode cL_same 632 = .ok (.ldc 44, 2) := by decide +kernel
theorem dL_same_634 : decode cL_same 634 = .ok (.if_icmp .eq 98, 3) := by decide +kernel
theorem dL_same_637 : decode cL_same 637 = .ok (.goto 93, 3) := by decide +kernel
theorem dL_same_640 : decode cL_same 640 = .ok (.iload 8, 2) := by decide +kernel
theorem dL_same_642 : decode cL_same 642 = .ok (.ifCond .ne 11, 3) := by decide +kernel
theorem dL_same_645 : decode cL_same 645 = .ok (.iload 9, 2) := by decide +kernel
theorem dL_same_647 : decode cL_same 647 = .ok (.ifCond .eq 85, 3) := by decide +kernel
theorem dL_same_650 : decode cL_same 650 = .ok (.goto 80, 3) := by decide +kernel
theorem dL_same_653 : decode cL_same 653 = .ok (.iload 8, 2) := by decide +kernel
theorem dL_same_655 : decode cL_same 655 = .ok (.iload 7, 2) := by decide +kernel
theorem dL_same_657 : decode cL_same 657 = .ok (.if_icmp .ne 13, 3) := by decide +kernel
theorem dL_same_660 : decode cL_same 660 = .ok (.iload 9, 2) := by decide +kernel
theorem dL_same_662 : decode cL_same 662 = .ok (.ldc 59, 2) := by decide +kernel
theorem dL_same_664 : decode cL_same 664 = .ok (.if_icmp .eq 68, 3) := by decide +kernel
theorem dL_same_667 : decode cL_same 667 = .ok (.goto 63, 3) := by decide +kernel
theorem dL_same_670 : decode cL_same 670 = .ok (.iconst 2, 1) := by decide +kernel
theorem dL_same_671 : decode cL_same 671 = .ok (.iload 8, 2) := by decide +kernel
theorem dL_same_673 : decode cL_same 673 = .ok (.imul, 1) := by decide +kernel
theorem dL_same_674 : decode cL_same 674 = .ok (.iload 7, 2) := by decide +kernel
theorem dL_same_676 : decode cL_same 676 = .ok (.if_icmp .ne 13, 3) := by decide +kernel
theorem dL_same_679 : decode cL_same 679 = .ok (.iload 9, 2) := by decide +kernel
theorem dL_same_681 : decode cL_same 681 = .ok (.ldc 60, 2) := by decide +kernel
theorem dL_same_683 : decode cL_same 683 = .ok (.if_icmp .eq 49, 3) := by decide +kernel
theorem dL_same_686 : decode cL_same 686 = .ok (.goto 44, 3) := by decide +kernel
theorem dL_same_689 : decode cL_same 689 = .ok (.iload 9, 2) := by decide +kernel
theorem dL_same_691 : decode cL_same 691 = .ok (.ifCond .le 39, 3) := by decide +kernel
theorem dL_same_694 : decode cL_same 694 = .ok (.iload 9, 2) := by decide +kernel
theorem dL_same_696 : decode cL_same 696 = .ok (.ldc 59, 2) := by decide +kernel
theorem dL_same_698 : decode cL_same 698 = .ok (.if_icmp .ge 32, 3) := by decide +kernel
theorem dL_same_701 : decode cL_same 701 = .ok (.iload 9, 2) := by decide +kernel
theorem dL_same_703 : decode cL_same 703 = .ok (.ldc 60, 2) := by decide +kernel
theorem dL_same_705 : decode cL_same 705 = .ok (.if_icmp .ge 7, 3) := by decide +kernel
theorem dL_same_708 : decode cL_same 708 = .ok (.iconst 1, 1) := by decide +kernel
theorem dL_same_709 : decode cL_same 709 = .ok (.goto 4, 3) := by decide +kernel
theorem dL_same_712 : decode cL_same 712 = .ok (.iconst 0, 1) := by decide +kernel
theorem dL_same_713 : decode cL_same 713 = .ok (.iconst 2, 1) := by decide +kernel
theorem dL_same_714 : decode cL_same 714 = .ok (.iload 8, 2) := by decide +kernel
theorem dL_same_716 : decode cL_same 716 = .ok (.imul, 1) := by decide +kernel
theorem dL_same_717 : decode cL_same 717 = .ok (.iload 7, 2) := by decide +kernel
theorem dL_same_719 : decode cL_same 719 = .ok (.if_icmp .ge 7, 3) := by decide +kernel
theorem dL_same_722 : decode cL_same 722 = .ok (.iconst 1, 1) := by decide +kernel
theorem dL_same_723 : decode cL_same 723 = .ok (.goto 4, 3) := by decide +kernel
theorem dL_same_726 : decode cL_same 726 = .ok (.iconst 0, 1) := by decide +kernel
theorem dL_same_727 : decode cL_same 727 = .ok (.if_icmp .eq 5, 3) := by decide +kernel
theorem dL_same_730 : decode cL_same 730 = .ok (.iconst 0, 1) := by decide +kernel
theorem dL_same_731 : decode cL_same 731 = .ok (.ireturn, 1) := by decide +kernel
theorem dL_same_732 : decode cL_same 732 = .ok (.iconst 0, 1) := by decide +kernel
theorem dL_same_733 : decode cL_same 733 = .ok (.istore 10, 2) := by decide +kernel
theorem dL_same_735 : decode cL_same 735 = .ok (.iload 10, 2) := by decide +kernel
theorem dL_same_737 : decode cL_same 737 = .ok (.aload_n 2, 1) := by decide +kernel
theorem dL_same_738 : decode cL_same 738 = .ok (.bipush 7, 2) := by decide +kernel
theorem dL_same_740 : decode cL_same 740 = .ok (.iaload, 1) := by decide +kernel
theorem dL_same_741 : decode cL_same 741 = .ok (.if_icmp .ge 47, 3) := by decide +kernel
theorem dL_same_744 : decode cL_same 744 = .ok (.iconst 0, 1) := by decide +kernel
theorem dL_same_745 : decode cL_same 745 = .ok (.istore 11, 2) := by decide +kernel
theorem dL_same_747 : decode cL_same 747 = .ok (.iload 11, 2) := by decide +kernel
theorem dL_same_749 : decode cL_same 749 = .ok (.iconst 3, 1) := by decide +kernel
theorem dL_same_750 : decode cL_same 750 = .ok (.if_icmp .ge 32, 3) := by decide +kernel
theorem dL_same_753 : decode cL_same 753 = .ok (.aload_n 0, 1) := by decide +kernel
theorem dL_same_754 : decode cL_same 754 = .ok (.iload 10, 2) := by decide +kernel
theorem dL_same_756 : decode cL_same 756 = .ok (.iload 11, 2) := by decide +kernel
theorem dL_same_758 : decode cL_same 758 = .ok (.invokevirtual 64, 3) := by decide +kernel
theorem dL_same_761 : decode cL_same 761 = .ok (.aload 5, 2) := by decide +kernel
theorem dL_same_763 : decode cL_same 763 = .ok (.iconst 3, 1) := by decide +kernel
theorem dL_same_764 : decode cL_same 764 = .ok (.iload 10, 2) := by decide +kernel
theorem dL_same_766 : decode cL_same 766 = .ok (.imul, 1) := by decide +kernel
theorem dL_same_767 : decode cL_same 767 = .ok (.iload 11, 2) := by decide +kernel
theorem dL_same_769 : decode cL_same 769 = .ok (.iadd, 1) := by decide +kernel
theorem dL_same_770 : decode cL_same 770 = .ok (.iaload, 1) := by decide +kernel
theorem dL_same_771 : decode cL_same 771 = .ok (.if_icmp .eq 5, 3) := by decide +kernel
theorem dL_same_774 : decode cL_same 774 = .ok (.iconst 0, 1) := by decide +kernel
theorem dL_same_775 : decode cL_same 775 = .ok (.ireturn, 1) := by decide +kernel
theorem dL_same_776 : decode cL_same 776 = .ok (.iinc 11 1, 3) := by decide +kernel
theorem dL_same_779 : decode cL_same 779 = .ok (.goto (-32), 3) := by decide +kernel
theorem dL_same_782 : decode cL_same 782 = .ok (.iinc 10 1, 3) := by decide +kernel
theorem dL_same_785 : decode cL_same 785 = .ok (.goto (-50), 3) := by decide +kernel
theorem dL_same_788 : decode cL_same 788 = .ok (.aload_n 0, 1) := by decide +kernel
theorem dL_same_789 : decode cL_same 789 = .ok (.iconst 3, 1) := by decide +kernel
theorem dL_same_790 : decode cL_same 790 = .ok (.invokevirtual 67, 3) := by decide +kernel
theorem dL_same_793 : decode cL_same 793 = .ok (.aload_n 2, 1) := by decide +kernel
theorem dL_same_794 : decode cL_same 794 = .ok (.iconst 4, 1) := by decide +kernel
theorem dL_same_795 : decode cL_same 795 = .ok (.iaload, 1) := by decide +kernel
theorem dL_same_796 : decode cL_same 796 = .ok (.if_icmp .ne 66, 3) := by decide +kernel
theorem dL_same_799 : decode cL_same 799 = .ok (.aload_n 0, 1) := by decide +kernel
theorem dL_same_800 : decode cL_same 800 = .ok (.iconst 4, 1) := by decide +kernel
theorem dL_same_801 : decode cL_same 801 = .ok (.invokevirtual 67, 3) := by decide +kernel
theorem dL_same_804 : decode cL_same 804 = .ok (.iload 6, 2) := by decide +kernel
theorem dL_same_806 : decode cL_same 806 = .ok (.if_icmp .ne 56, 3) := by decide +kernel
theorem dL_same_809 : decode cL_same 809 = .ok (.aload_n 0, 1) := by decide +kernel
theorem dL_same_810 : decode cL_same 810 = .ok (.iconst 5, 1) := by decide +kernel
theorem dL_same_811 : decode cL_same 811 = .ok (.invokevirtual 67, 3) := by decide +kernel
theorem dL_same_814 : decode cL_same 814 = .ok (.aload_n 2, 1) := by decide +kernel
theorem dL_same_815 : decode cL_same 815 = .ok (.iconst 3, 1) := by decide +kernel
theorem dL_same_816 : decode cL_same 816 = .ok (.iaload, 1) := by decide +kernel
theorem dL_same_817 : decode cL_same 817 = .ok (.if_icmp .ne 45, 3) := by decide +kernel
theorem dL_same_820 : decode cL_same 820 = .ok (.aload_n 0, 1) := by decide +kernel
theorem dL_same_821 : decode cL_same 821 = .ok (.bipush 6, 2) := by decide +kernel
theorem dL_same_823 : decode cL_same 823 = .ok (.invokevirtual 67, 3) := by decide +kernel
theorem dL_same_826 : decode cL_same 826 = .ok (.aload_n 2, 1) := by decide +kernel
theorem dL_same_827 : decode cL_same 827 = .ok (.iconst 5, 1) := by decide +kernel
theorem dL_same_828 : decode cL_same 828 = .ok (.iaload, 1) := by decide +kernel
theorem dL_same_829 : decode cL_same 829 = .ok (.if_icmp .ne 33, 3) := by decide +kernel
theorem dL_same_832 : decode cL_same 832 = .ok (.aload_n 0, 1) := by decide +kernel
theorem dL_same_833 : decode cL_same 833 = .ok (.bipush 7, 2) := by decide +kernel
theorem dL_same_835 : decode cL_same 835 = .ok (.invokevirtual 67, 3) := by decide +kernel
theorem dL_same_838 : decode cL_same 838 = .ok (.aload_n 2, 1) := by decide +kernel
theorem dL_same_839 : decode cL_same 839 = .ok (.bipush 6, 2) := by decide +kernel
theorem dL_same_841 : decode cL_same 841 = .ok (.iaload, 1) := by decide +kernel
theorem dL_same_842 : decode cL_same 842 = .ok (.if_icmp .ne 20, 3) := by decide +kernel
theorem dL_same_845 : decode cL_same 845 = .ok (.aload_n 0, 1) := by decide +kernel
theorem dL_same_846 : decode cL_same 846 = .ok (.bipush 8, 2) := by decide +kernel
theorem dL_same_848 : decode cL_same 848 = .ok (.invokevirtual 67, 3) := by decide +kernel
theorem dL_same_851 : decode cL_same 851 = .ok (.aload_n 2, 1) := by decide +kernel
theorem dL_same_852 : decode cL_same 852 = .ok (.bipush 7, 2) := by decide +kernel
theorem dL_same_854 : decode cL_same 854 = .ok (.iaload, 1) := by decide +kernel
theorem dL_same_855 : decode cL_same 855 = .ok (.if_icmp .ne 7, 3) := by decide +kernel
theorem dL_same_858 : decode cL_same 858 = .ok (.iconst 1, 1) := by decide +kernel
theorem dL_same_859 : decode cL_same 859 = .ok (.goto 4, 3) := by decide +kernel
theorem dL_same_862 : decode cL_same 862 = .ok (.iconst 0, 1) := by decide +kernel
theorem dL_same_863 : decode cL_same 863 = .ok (.ireturn, 1) := by decide +kernel
theorem dL_copy_0 : decode cL_copy 0 = .ok (.iconst 0, 1) := by decide +kernel
theorem dL_copy_1 : decode cL_copy 1 = .ok (.istore_n 2, 1) := by decide +kernel
theorem dL_copy_2 : decode cL_copy 2 = .ok (.iload_n 2, 1) := by decide +kernel
theorem dL_copy_3 : decode cL_copy 3 = .ok (.aload_n 0, 1) := by decide +kernel
theorem dL_copy_4 : decode cL_copy 4 = .ok (.arraylength, 1) := by decide +kernel
theorem dL_copy_5 : decode cL_copy 5 = .ok (.if_icmp .ge 15, 3) := by decide +kernel
theorem dL_copy_8 : decode cL_copy 8 = .ok (.aload_n 1, 1) := by decide +kernel
theorem dL_copy_9 : decode cL_copy 9 = .ok (.iload_n 2, 1) := by decide +kernel
theorem dL_copy_10 : decode cL_copy 10 = .ok (.aload_n 0, 1) := by decide +kernel
theorem dL_copy_11 : decode cL_copy 11 = .ok (.iload_n 2, 1) := by decide +kernel
theorem dL_copy_12 : decode cL_copy 12 = .ok (.iaload, 1) := by decide +kernel
theorem dL_copy_13 : decode cL_copy 13 = .ok (.iastore, 1) := by decide +kernel
theorem dL_copy_14 : decode cL_copy 14 = .ok (.iinc 2 1, 3) := by decide +kernel
theorem dL_copy_17 : decode cL_copy 17 = .ok (.goto (-15), 3) := by decide +kernel
theorem dL_copy_20 : decode cL_copy 20 = .ok (.return_, 1) := by decide +kernel
theorem dL_would_0 : decode cL_would 0 = .ok (.bipush 8, 2) := by decide +kernel
theorem dL_would_2 : decode cL_would 2 = .ok (.newarray .int, 2) := by decide +kernel
theorem dL_would_4 : decode cL_would 4 = .ok (.astore 9, 2) := by decide +kernel
theorem dL_would_6 : decode cL_would 6 = .ok (.bipush 50, 2) := by decide +kernel
theorem dL_would_8 : decode cL_would 8 = .ok (.newarray .int, 2) := by decide +kernel
theorem dL_would_10 : decode cL_would 10 = .ok (.astore 10, 2) := by decide +kernel
theorem dL_would_12 : decode cL_would 12 = .ok (.bipush 40, 2) := by decide +kernel
theorem dL_would_14 : decode cL_would 14 = .ok (.newarray .int, 2) := by decide +kernel
theorem dL_would_16 : decode cL_would 16 = .ok (.astore 11, 2) := by decide +kernel
theorem dL_would_18 : decode cL_would 18 = .ok (.bipush 24, 2) := by decide +kernel
theorem dL_would_20 : decode cL_would 20 = .ok (.newarray .int, 2) := by decide +kernel
theorem dL_would_22 : decode cL_would 22 = .ok (.astore 12, 2) := by decide +kernel
theorem dL_would_24 : decode cL_would 24 = .ok (.iconst 0, 1) := by decide +kernel
theorem dL_would_25 : decode cL_would 25 = .ok (.istore 13, 2) := by decide +kernel
theorem dL_would_27 : decode cL_would 27 = .ok (.iconst (-1), 1) := by decide +kernel
theorem dL_would_28 : decode cL_would 28 = .ok (.istore 14, 2) := by decide +kernel
theorem dL_would_30 : decode cL_would 30 = .ok (.iconst 0, 1) := by decide +kernel
theorem dL_would_31 : decode cL_would 31 = .ok (.istore 15, 2) := by decide +kernel
theorem dL_would_33 : decode cL_would 33 = .ok (.iload 15, 2) := by decide +kernel
theorem dL_would_35 : decode cL_would 35 = .ok (.iconst 1, 1) := by decide +kernel
theorem dL_would_36 : decode cL_would 36 = .ok (.iload_n 3, 1) := by decide +kernel
theorem dL_would_37 : decode cL_would 37 = .ok (.ishl, 1) := by decide +kernel
theorem dL_would_38 : decode cL_would 38 = .ok (.if_icmp .ge 165, 3) := by decide +kernel
theorem dL_would_41 : decode cL_would 41 = .ok (.aload 4, 2) := by decide +kernel
theorem dL_would_43 : decode cL_would 43 = .ok (.aload 9, 2) := by decide +kernel
theorem dL_would_45 : decode cL_would 45 = .ok (.invokestatic 70, 3) := by decide +kernel
theorem dL_would_48 : decode cL_would 48 = .ok (.aload 5, 2) := by decide +kernel
theorem dL_would_50 : decode cL_would 50 = .ok (.aload 10, 2) := by decide +kernel
theorem dL_would_52 : decode cL_would 52 = .ok (.invokestatic 70, 3) := by decide +kernel
theorem dL_would_55 : decode cL_would 55 = .ok (.aload 6, 2) := by decide +kernel
theorem dL_would_57 : decode cL_would 57 = .ok (.aload 11, 2) := by decide +kernel
theorem dL_would_59 : decode cL_would 59 = .ok (.invokestatic 70, 3) := by decide +kernel
theorem dL_would_62 : decode cL_would 62 = .ok (.aload 7, 2) := by decide +kernel
theorem dL_would_64 : decode cL_would 64 = .ok (.aload 12, 2) := by decide +kernel
theorem dL_would_66 : decode cL_would 66 = .ok (.invokestatic 70, 3) := by decide +kernel
theorem dL_would_69 : decode cL_would 69 = .ok (.iload_n 3, 1) := by decide +kernel
theorem dL_would_70 : decode cL_would 70 = .ok (.iconst 1, 1) := by decide +kernel
theorem dL_would_71 : decode cL_would 71 = .ok (.isub, 1) := by decide +kernel
theorem dL_would_72 : decode cL_would 72 = .ok (.istore 16, 2) := by decide +kernel
theorem dL_would_74 : decode cL_would 74 = .ok (.iload 16, 2) := by decide +kernel
theorem dL_would_76 : decode cL_would 76 = .ok (.ifCond .lt 31, 3) := by decide +kernel
theorem dL_would_79 : decode cL_would 79 = .ok (.iload_n 2, 1) := by decide +kernel
theorem dL_would_80 : decode cL_would 80 = .ok (.iload 15, 2) := by decide +kernel
theorem dL_would_82 : decode cL_would 82 = .ok (.iload 16, 2) := by decide +kernel
theorem dL_would_84 : decode cL_would 84 = .ok (.ishr, 1) := by decide +kernel
theorem dL_would_85 : decode cL_would 85 = .ok (.iconst 1, 1) := by decide +kernel
theorem dL_would_86 : decode cL_would 86 = .ok (.iand, 1) := by decide +kernel
theorem dL_would_87 : decode cL_would 87 = .ok (.aload 9, 2) := by decide +kernel
theorem dL_would_89 : decode cL_would 89 = .ok (.aload 10, 2) := by decide +kernel
theorem dL_would_91 : decode cL_would 91 = .ok (.aload 11, 2) := by decide +kernel
theorem dL_would_93 : decode cL_would 93 = .ok (.aload 12, 2) := by decide +kernel
theorem dL_would_95 : decode cL_would 95 = .ok (.aload 8, 2) := by decide +kernel
theorem dL_would_97 : decode cL_would 97 = .ok (.invokestatic 74, 3) := by decide +kernel
theorem dL_would_100 : decode cL_would 100 = .ok (.pop, 1) := by decide +kernel
theorem dL_would_101 : decode cL_would 101 = .ok (.iinc 16 (-1), 3) := by decide +kernel
theorem dL_would_104 : decode cL_would 104 = .ok (.goto (-30), 3) := by decide +kernel
theorem dL_would_107 : decode cL_would 107 = .ok (.iload_n 3, 1) := by decide +kernel
theorem dL_would_108 : decode cL_would 108 = .ok (.iconst 1, 1) := by decide +kernel
theorem dL_would_109 : decode cL_would 109 = .ok (.if_icmp .ne 35, 3) := by decide +kernel
theorem dL_would_112 : decode cL_would 112 = .ok (.aload_n 0, 1) := by decide +kernel
theorem dL_would_113 : decode cL_would 113 = .ok (.iload_n 1, 1) := by decide +kernel
theorem dL_would_114 : decode cL_would 114 = .ok (.iload_n 2, 1) := by decide +kernel
theorem dL_would_115 : decode cL_would 115 = .ok (.iload 15, 2) := by decide +kernel
theorem dL_would_117 : decode cL_would 117 = .ok (.invokevirtual 78, 3) := by decide +kernel
theorem dL_would_120 : decode cL_would 120 = .ok (.aload 10, 2) := by decide +kernel
theorem dL_would_122 : decode cL_would 122 = .ok (.bipush 10, 2) := by decide +kernel
theorem dL_would_124 : decode cL_would 124 = .ok (.iload_n 1, 1) := by decide +kernel
theorem dL_would_125 : decode cL_would 125 = .ok (.imul, 1) := by decide +kernel
theorem dL_would_126 : decode cL_would 126 = .ok (.iconst 2, 1) := by decide +kernel
theorem dL_would_127 : decode cL_would 127 = .ok (.iadd, 1) := by decide +kernel
theorem dL_would_128 : decode cL_would 128 = .ok (.iaload, 1) := by decide +kernel
theorem dL_would_129 : decode cL_would 129 = .ok (.aload 5, 2) := by decide +kernel
theorem dL_would_131 : decode cL_would 131 = .ok (.bipush 10, 2) := by decide +kernel
theorem dL_would_133 : decode cL_would 133 = .ok (.iload_n 1, 1) := by decide +kernel
theorem dL_would_134 : decode cL_would 134 = .ok (.imul, 1) := by decide +kernel
theorem dL_would_135 : decode cL_would 135 = .ok (.iconst 2, 1) := by decide +kernel
theorem dL_would_136 : decode cL_would 136 = .ok (.iadd, 1) := by decide +kernel
theorem dL_would_137 : decode cL_would 137 = .ok (.iaload, 1) := by decide +kernel
theorem dL_would_138 : decode cL_would 138 = .ok (.isub, 1) := by decide +kernel
theorem dL_would_139 : decode cL_would 139 = .ok (.if_icmp .eq 5, 3) := by decide +kernel
theorem dL_would_142 : decode cL_would 142 = .ok (.iconst 0, 1) := by decide +kernel
theorem dL_would_143 : decode cL_would 143 = .ok (.ireturn, 1) := by decide +kernel
theorem dL_would_144 : decode cL_would 144 = .ok (.aload 10, 2) := by decide +kernel
theorem dL_would_146 : decode cL_would 146 = .ok (.bipush 10, 2) := by decide +kernel
theorem dL_would_148 : decode cL_would 148 = .ok (.iload_n 1, 1) := by decide +kernel
theorem dL_would_149 : decode cL_would 149 = .ok (.imul, 1) := by decide +kernel
theorem dL_would_150 : decode cL_would 150 = .ok (.iconst 2, 1) := by decide +kernel
theorem dL_would_151 : decode cL_would 151 = .ok (.iadd, 1) := by decide +kernel
theorem dL_would_152 : decode cL_would 152 = .ok (.iaload, 1) := by decide +kernel
theorem dL_would_153 : decode cL_would 153 = .ok (.iload 14, 2) := by decide +kernel
theorem dL_would_155 : decode cL_would 155 = .ok (.if_icmp .le 8, 3) := by decide +kernel
theorem dL_would_158 : decode cL_would 158 = .ok (.iload 15, 2) := by decide +kernel
theorem dL_would_160 : decode cL_would 160 = .ok (.goto 5, 3) := by decide +kernel
theorem dL_would_163 : decode cL_would 163 = .ok (.iload 13, 2) := by decide +kernel
theorem dL_would_165 : decode cL_would 165 = .ok (.istore 13, 2) := by decide +kernel
theorem dL_would_167 : decode cL_would 167 = .ok (.aload 10, 2) := by decide +kernel
theorem dL_would_169 : decode cL_would 169 = .ok (.bipush 10, 2) := by decide +kernel
theorem dL_would_171 : decode cL_would 171 = .ok (.iload_n 1, 1) := by decide +kernel
theorem dL_would_172 : decode cL_would 172 = .ok (.imul, 1) := by decide +kernel
theorem dL_would_173 : decode cL_would 173 = .ok (.iconst 2, 1) := by decide +kernel
theorem dL_would_174 : decode cL_would 174 = .ok (.iadd, 1) := by decide +kernel
theorem dL_would_175 : decode cL_would 175 = .ok (.iaload, 1) := by decide +kernel
theorem dL_would_176 : decode cL_would 176 = .ok (.iload 14, 2) := by decide +kernel
theorem dL_would_178 : decode cL_would 178 = .ok (.if_icmp .le 15, 3) := by decide +kernel
theorem dL_would_181 : decode cL_would 181 = .ok (.aload 10, 2) := by decide +kernel
theorem dL_would_183 : decode cL_would 183 = .ok (.bipush 10, 2) := by decide +kernel
theorem dL_would_185 : decode cL_would 185 = .ok (.iload_n 1, 1) := by decide +kernel
theorem dL_would_186 : decode cL_would 186 = .ok (.imul, 1) := by decide +kernel
theorem dL_would_187 : decode cL_would 187 = .ok (.iconst 2, 1) := by decide +kernel
theorem dL_would_188 : decode cL_would 188 = .ok (.iadd, 1) := by decide +kernel
theorem dL_would_189 : decode cL_would 189 = .ok (.iaload, 1) := by decide +kernel
theorem dL_would_190 : decode cL_would 190 = .ok (.goto 5, 3) := by decide +kernel
theorem dL_would_193 : decode cL_would 193 = .ok (.iload 14, 2) := by decide +kernel
theorem dL_would_195 : decode cL_would 195 = .ok (.istore 14, 2) := by decide +kernel
theorem dL_would_197 : decode cL_would 197 = .ok (.iinc 15 1, 3) := by decide +kernel
theorem dL_would_200 : decode cL_would 200 = .ok (.goto (-167), 3) := by decide +kernel
theorem dL_would_203 : decode cL_would 203 = .ok (.aload_n 0, 1) := by decide +kernel
theorem dL_would_204 : decode cL_would 204 = .ok (.iload_n 1, 1) := by decide +kernel
theorem dL_would_205 : decode cL_would 205 = .ok (.iload_n 2, 1) := by decide +kernel
theorem dL_would_206 : decode cL_would 206 = .ok (.iload_n 3, 1) := by decide +kernel
theorem dL_would_207 : decode cL_would 207 = .ok (.iconst 0, 1) := by decide +kernel
theorem dL_would_208 : decode cL_would 208 = .ok (.invokevirtual 82, 3) := by decide +kernel
theorem dL_would_211 : decode cL_would 211 = .ok (.iload 13, 2) := by decide +kernel
theorem dL_would_213 : decode cL_would 213 = .ok (.if_icmp .ne 16, 3) := by decide +kernel
theorem dL_would_216 : decode cL_would 216 = .ok (.aload_n 0, 1) := by decide +kernel
theorem dL_would_217 : decode cL_would 217 = .ok (.iload_n 1, 1) := by decide +kernel
theorem dL_would_218 : decode cL_would 218 = .ok (.iload_n 2, 1) := by decide +kernel
theorem dL_would_219 : decode cL_would 219 = .ok (.iload_n 3, 1) := by decide +kernel
theorem dL_would_220 : decode cL_would 220 = .ok (.iconst 1, 1) := by decide +kernel
theorem dL_would_221 : decode cL_would 221 = .ok (.invokevirtual 82, 3) := by decide +kernel
theorem dL_would_224 : decode cL_would 224 = .ok (.iload 14, 2) := by decide +kernel
theorem dL_would_226 : decode cL_would 226 = .ok (.if_icmp .eq 5, 3) := by decide +kernel
theorem dL_would_229 : decode cL_would 229 = .ok (.iconst 0, 1) := by decide +kernel
theorem dL_would_230 : decode cL_would 230 = .ok (.ireturn, 1) := by decide +kernel
theorem dL_would_231 : decode cL_would 231 = .ok (.aload 4, 2) := by decide +kernel
theorem dL_would_233 : decode cL_would 233 = .ok (.aload 9, 2) := by decide +kernel
theorem dL_would_235 : decode cL_would 235 = .ok (.invokestatic 70, 3) := by decide +kernel
theorem dL_would_238 : decode cL_would 238 = .ok (.aload 5, 2) := by decide +kernel
theorem dL_would_240 : decode cL_would 240 = .ok (.aload 10, 2) := by decide +kernel
theorem dL_would_242 : decode cL_would 242 = .ok (.invokestatic 70, 3) := by decide +kernel
theorem dL_would_245 : decode cL_would 245 = .ok (.aload 6, 2) := by decide +kernel
theorem dL_would_247 : decode cL_would 247 = .ok (.aload 11, 2) := by decide +kernel
theorem dL_would_249 : decode cL_would 249 = .ok (.invokestatic 70, 3) := by decide +kernel
theorem dL_would_252 : decode cL_would 252 = .ok (.aload 7, 2) := by decide +kernel
theorem dL_would_254 : decode cL_would 254 = .ok (.aload 12, 2) := by decide +kernel
theorem dL_would_256 : decode cL_would 256 = .ok (.invokestatic 70, 3) := by decide +kernel
theorem dL_would_259 : decode cL_would 259 = .ok (.iconst 0, 1) := by decide +kernel
theorem dL_would_260 : decode cL_would 260 = .ok (.istore 15, 2) := by decide +kernel
theorem dL_would_262 : decode cL_would 262 = .ok (.iload 15, 2) := by decide +kernel
theorem dL_would_264 : decode cL_would 264 = .ok (.bipush 100, 2) := by decide +kernel
theorem dL_would_266 : decode cL_would 266 = .ok (.if_icmp .ge 39, 3) := by decide +kernel
theorem dL_would_269 : decode cL_would 269 = .ok (.aload 10, 2) := by decide +kernel
theorem dL_would_271 : decode cL_would 271 = .ok (.bipush 10, 2) := by decide +kernel
theorem dL_would_273 : decode cL_would 273 = .ok (.iload_n 1, 1) := by decide +kernel
theorem dL_would_274 : decode cL_would 274 = .ok (.imul, 1) := by decide +kernel
theorem dL_would_275 : decode cL_would 275 = .ok (.iconst 2, 1) := by decide +kernel
theorem dL_would_276 : decode cL_would 276 = .ok (.iadd, 1) := by decide +kernel
theorem dL_would_277 : decode cL_would 277 = .ok (.iaload, 1) := by decide +kernel
theorem dL_would_278 : decode cL_would 278 = .ok (.ifCond .le 27, 3) := by decide +kernel
theorem dL_would_281 : decode cL_would 281 = .ok (.iload_n 2, 1) := by decide +kernel
theorem dL_would_282 : decode cL_would 282 = .ok (.iload_n 3, 1) := by decide +kernel
theorem dL_would_283 : decode cL_would 283 = .ok (.iconst 2, 1) := by decide +kernel
theorem dL_would_284 : decode cL_would 284 = .ok (.irem, 1) := by decide +kernel
theorem dL_would_285 : decode cL_would 285 = .ok (.aload 9, 2) := by decide +kernel
theorem dL_would_287 : decode cL_would 287 = .ok (.aload 10, 2) := by decide +kernel
theorem dL_would_289 : decode cL_would 289 = .ok (.aload 11, 2) := by decide +kernel
theorem dL_would_291 : decode cL_would 291 = .ok (.aload 12, 2) := by decide +kernel
theorem dL_would_293 : decode cL_would 293 = .ok (.aload 8, 2) := by decide +kernel
theorem dL_would_295 : decode cL_would 295 = .ok (.invokestatic 74, 3) := by decide +kernel
theorem dL_would_298 : decode cL_would 298 = .ok (.pop, 1) := by decide +kernel
theorem dL_would_299 : decode cL_would 299 = .ok (.iinc 15 1, 3) := by decide +kernel
theorem dL_would_302 : decode cL_would 302 = .ok (.goto (-40), 3) := by decide +kernel
theorem dL_would_305 : decode cL_would 305 = .ok (.aload_n 0, 1) := by decide +kernel
theorem dL_would_306 : decode cL_would 306 = .ok (.iload_n 1, 1) := by decide +kernel
theorem dL_would_307 : decode cL_would 307 = .ok (.iload_n 2, 1) := by decide +kernel
theorem dL_would_308 : decode cL_would 308 = .ok (.iload_n 3, 1) := by decide +kernel
theorem dL_would_309 : decode cL_would 309 = .ok (.iconst 2, 1) := by decide +kernel
theorem dL_would_310 : decode cL_would 310 = .ok (.irem, 1) := by decide +kernel
theorem dL_would_311 : decode cL_would 311 = .ok (.invokevirtual 86, 3) := by decide +kernel
theorem dL_would_314 : decode cL_would 314 = .ok (.aload 10, 2) := by decide +kernel
theorem dL_would_316 : decode cL_would 316 = .ok (.bipush 10, 2) := by decide +kernel
theorem dL_would_318 : decode cL_would 318 = .ok (.iload_n 1, 1) := by decide +kernel
theorem dL_would_319 : decode cL_would 319 = .ok (.imul, 1) := by decide +kernel
theorem dL_would_320 : decode cL_would 320 = .ok (.iconst 2, 1) := by decide +kernel
theorem dL_would_321 : decode cL_would 321 = .ok (.iadd, 1) := by decide +kernel
theorem dL_would_322 : decode cL_would 322 = .ok (.iaload, 1) := by decide +kernel
theorem dL_would_323 : decode cL_would 323 = .ok (.ifCond .ne 8, 3) := by decide +kernel
theorem dL_would_326 : decode cL_would 326 = .ok (.iload 15, 2) := by decide +kernel
theorem dL_would_328 : decode cL_would 328 = .ok (.goto 5, 3) := by decide +kernel
theorem dL_would_331 : decode cL_would 331 = .ok (.ldc 44, 2) := by decide +kernel
theorem dL_would_333 : decode cL_would 333 = .ok (.if_icmp .ne 7, 3) := by decide +kernel
theorem dL_would_336 : decode cL_would 336 = .ok (.iconst 1, 1) := by decide +kernel
theorem dL_would_337 : decode cL_would 337 = .ok (.goto 4, 3) := by decide +kernel
theorem dL_would_340 : decode cL_would 340 = .ok (.iconst 0, 1) := by decide +kernel
theorem dL_would_341 : decode cL_would 341 = .ok (.ireturn, 1) := by decide +kernel
theorem dL_law_0 : decode cL_law 0 = .ok (.new 39, 3) := by decide +kernel
theorem dL_law_3 : decode cL_law 3 = .ok (.dup, 1) := by decide +kernel
theorem dL_law_4 : decode cL_law 4 = .ok (.invokespecial 89, 3) := by decide +kernel
theorem dL_law_7 : decode cL_law 7 = .ok (.astore_n 1, 1) := by decide +kernel
theorem dL_law_8 : decode cL_law 8 = .ok (.bipush 8, 2) := by decide +kernel
theorem dL_law_10 : decode cL_law 10 = .ok (.newarray .int, 2) := by decide +kernel
theorem dL_law_12 : decode cL_law 12 = .ok (.astore_n 2, 1) := by decide +kernel
theorem dL_law_13 : decode cL_law 13 = .ok (.bipush 50, 2) := by decide +kernel
theorem dL_law_15 : decode cL_law 15 = .ok (.newarray .int, 2) := by decide +kernel
theorem dL_law_17 : decode cL_law 17 = .ok (.astore_n 3, 1) := by decide +kernel
theorem dL_law_18 : decode cL_law 18 = .ok (.bipush 40, 2) := by decide +kernel
theorem dL_law_20 : decode cL_law 20 = .ok (.newarray .int, 2) := by decide +kernel
theorem dL_law_22 : decode cL_law 22 = .ok (.astore 4, 2) := by decide +kernel
theorem dL_law_24 : decode cL_law 24 = .ok (.bipush 24, 2) := by decide +kernel
theorem dL_law_26 : decode cL_law 26 = .ok (.newarray .int, 2) := by decide +kernel
theorem dL_law_28 : decode cL_law 28 = .ok (.astore 5, 2) := by decide +kernel
theorem dL_law_30 : decode cL_law 30 = .ok (.bipush 15, 2) := by decide +kernel
theorem dL_law_32 : decode cL_law 32 = .ok (.newarray .int, 2) := by decide +kernel
theorem dL_law_34 : decode cL_law 34 = .ok (.astore 6, 2) := by decide +kernel
theorem dL_law_36 : decode cL_law 36 = .ok (.aload_n 2, 1) := by decide +kernel
theorem dL_law_37 : decode cL_law 37 = .ok (.iconst 0, 1) := by decide +kernel
theorem dL_law_38 : decode cL_law 38 = .ok (.iconst 1, 1) := by decide +kernel
theorem dL_law_39 : decode cL_law 39 = .ok (.aload_n 0, 1) := by decide +kernel
theorem dL_law_40 : decode cL_law 40 = .ok (.iconst 0, 1) := by decide +kernel
theorem dL_law_41 : decode cL_law 41 = .ok (.invokestatic 90, 3) := by decide +kernel
theorem dL_law_44 : decode cL_law 44 = .ok (.bipush 20, 2) := by decide +kernel
theorem dL_law_46 : decode cL_law 46 = .ok (.invokestatic 94, 3) := by decide +kernel
theorem dL_law_49 : decode cL_law 49 = .ok (.iadd, 1) := by decide +kernel
theorem dL_law_50 : decode cL_law 50 = .ok (.iastore, 1) := by decide +kernel
theorem dL_law_51 : decode cL_law 51 = .ok (.aload_n 2, 1) := by decide +kernel
theorem dL_law_52 : decode cL_law 52 = .ok (.iconst 1, 1) := by decide +kernel
theorem dL_law_53 : decode cL_law 53 = .ok (.aload_n 0, 1) := by decide +kernel
theorem dL_law_54 : decode cL_law 54 = .ok (.iconst 0, 1) := by decide +kernel
theorem dL_law_55 : decode cL_law 55 = .ok (.invokestatic 90, 3) := by decide +kernel
theorem dL_law_58 : decode cL_law 58 = .ok (.iconst 5, 1) := by decide +kernel
theorem dL_law_59 : decode cL_law 59 = .ok (.ishr, 1) := by decide +kernel
theorem dL_law_60 : decode cL_law 60 = .ok (.bipush 51, 2) := by decide +kernel
theorem dL_law_62 : decode cL_law 62 = .ok (.invokestatic 94, 3) := by decide +kernel
theorem dL_law_65 : decode cL_law 65 = .ok (.iastore, 1) := by decide +kernel
theorem dL_law_66 : decode cL_law 66 = .ok (.aload_n 2, 1) := by decide +kernel
theorem dL_law_67 : decode cL_law 67 = .ok (.iconst 2, 1) := by decide +kernel
theorem dL_law_68 : decode cL_law 68 = .ok (.aload_n 0, 1) := by decide +kernel
theorem dL_law_69 : decode cL_law 69 = .ok (.iconst 0, 1) := by decide +kernel
theorem dL_law_70 : decode cL_law 70 = .ok (.invokestatic 90, 3) := by decide +kernel
theorem dL_law_73 : decode cL_law 73 = .ok (.bipush 11, 2) := by decide +kernel
theorem dL_law_75 : decode cL_law 75 = .ok (.ishr, 1) := by decide +kernel
theorem dL_law_76 : decode cL_law 76 = .ok (.bipush 101, 2) := by decide +kernel
theorem dL_law_78 : decode cL_law 78 = .ok (.invokestatic 94, 3) := by decide +kernel
theorem dL_law_81 : decode cL_law 81 = .ok (.iastore, 1) := by decide +kernel
theorem dL_law_82 : decode cL_law 82 = .ok (.aload_n 1, 1) := by decide +kernel
theorem dL_law_83 : decode cL_law 83 = .ok (.iconst 0, 1) := by decide +kernel
theorem dL_law_84 : decode cL_law 84 = .ok (.aload_n 2, 1) := by decide +kernel
theorem dL_law_85 : decode cL_law 85 = .ok (.iconst 0, 1) := by decide +kernel
theorem dL_law_86 : decode cL_law 86 = .ok (.iaload, 1) := by decide +kernel
theorem dL_law_87 : decode cL_law 87 = .ok (.invokevirtual 97, 3) := by decide +kernel
theorem dL_law_90 : decode cL_law 90 = .ok (.iconst 5, 1) := by decide +kernel
theorem dL_law_91 : decode cL_law 91 = .ok (.if_icmp .ne 29, 3) := by decide +kernel
theorem dL_law_94 : decode cL_law 94 = .ok (.aload_n 1, 1) := by decide +kernel
theorem dL_law_95 : decode cL_law 95 = .ok (.iconst 1, 1) := by decide +kernel
theorem dL_law_96 : decode cL_law 96 = .ok (.aload_n 2, 1) := by decide +kernel
theorem dL_law_97 : decode cL_law 97 = .ok (.iconst 1, 1) := by decide +kernel
theorem dL_law_98 : decode cL_law 98 = .ok (.iaload, 1) := by decide +kernel
theorem dL_law_99 : decode cL_law 99 = .ok (.invokevirtual 97, 3) := by decide +kernel
theorem dL_law_102 : decode cL_law 102 = .ok (.bipush 10, 2) := by decide +kernel
theorem dL_law_104 : decode cL_law 104 = .ok (.if_icmp .ne 16, 3) := by decide +kernel
theorem dL_law_107 : decode cL_law 107 = .ok (.aload_n 1, 1) := by decide +kernel
theorem dL_law_108 : decode cL_law 108 = .ok (.iconst 2, 1) := by decide +kernel
theorem dL_law_109 : decode cL_law 109 = .ok (.aload_n 2, 1) := by decide +kernel
theorem dL_law_110 : decode cL_law 110 = .ok (.iconst 2, 1) := by decide +kernel
theorem dL_law_111 : decode cL_law 111 = .ok (.iaload, 1) := by decide +kernel
theorem dL_law_112 : decode cL_law 112 = .ok (.invokevirtual 97, 3) := by decide +kernel
theorem dL_law_115 : decode cL_law 115 = .ok (.bipush 50, 2) := by decide +kernel
theorem dL_law_117 : decode cL_law 117 = .ok (.if_icmp .eq 5, 3) := by decide +kernel
theorem dL_law_120 : decode cL_law 120 = .ok (.iconst 0, 1) := by decide +kernel
theorem dL_law_121 : decode cL_law 121 = .ok (.ireturn, 1) := by decide +kernel
theorem dL_law_122 : decode cL_law 122 = .ok (.iconst 0, 1) := by decide +kernel
theorem dL_law_123 : decode cL_law 123 = .ok (.istore 7, 2) := by decide +kernel
theorem dL_law_125 : decode cL_law 125 = .ok (.iload 7, 2) := by decide +kernel
theorem dL_law_127 : decode cL_law 127 = .ok (.bipush 40, 2) := by decide +kernel
theorem dL_law_129 : decode cL_law 129 = .ok (.if_icmp .ge 15, 3) := by decide +kernel
theorem dL_law_132 : decode cL_law 132 = .ok (.aload 4, 2) := by decide +kernel
theorem dL_law_134 : decode cL_law 134 = .ok (.iload 7, 2) := by decide +kernel
theorem dL_law_136 : decode cL_law 136 = .ok (.iconst 1, 1) := by decide +kernel
theorem dL_law_137 : decode cL_law 137 = .ok (.iastore, 1) := by decide +kernel
theorem dL_law_138 : decode cL_law 138 = .ok (.iinc 7 1, 3) := by decide +kernel
theorem dL_law_141 : decode cL_law 141 = .ok (.goto (-16), 3) := by decide +kernel
theorem dL_law_144 : decode cL_law 144 = .ok (.iconst 0, 1) := by decide +kernel
theorem dL_law_145 : decode cL_law 145 = .ok (.istore 7, 2) := by decide +kernel
theorem dL_law_147 : decode cL_law 147 = .ok (.iload 7, 2) := by decide +kernel
theorem dL_law_149 : decode cL_law 149 = .ok (.iconst 5, 1) := by decide +kernel
theorem dL_law_150 : decode cL_law 150 = .ok (.if_icmp .ge 131, 3) := by decide +kernel
theorem dL_law_153 : decode cL_law 153 = .ok (.aload_n 0, 1) := by decide +kernel
theorem dL_law_154 : decode cL_law 154 = .ok (.iconst 1, 1) := by decide +kernel
theorem dL_law_155 : decode cL_law 155 = .ok (.iload 7, 2) := by decide +kernel
theorem dL_law_157 : decode cL_law 157 = .ok (.iadd, 1) := by decide +kernel
theorem dL_law_158 : decode cL_law 158 = .ok (.invokestatic 90, 3) := by decide +kernel
theorem dL_law_161 : decode cL_law 161 = .ok (.istore 8, 2) := by decide +kernel
theorem dL_law_163 : decode cL_law 163 = .ok (.bipush 10, 2) := by decide +kernel
theorem dL_law_165 : decode cL_law 165 = .ok (.iload 7, 2) := by decide +kernel
theorem dL_law_167 : decode cL_law 167 = .ok (.imul, 1) := by decide +kernel
theorem dL_law_168 : decode cL_law 168 = .ok (.istore 9, 2) := by decide +kernel
theorem dL_law_170 : decode cL_law 170 = .ok (.aload_n 3, 1) := by decide +kernel
theorem dL_law_171 : decode cL_law 171 = .ok (.iload 9, 2) := by decide +kernel
theorem dL_law_173 : decode cL_law 173 = .ok (.iload 8, 2) := by decide +kernel
theorem dL_law_175 : decode cL_law 175 = .ok (.iconst 5, 1) := by decide +kernel
theorem dL_law_176 : decode cL_law 176 = .ok (.invokestatic 94, 3) := by decide +kernel
theorem dL_law_179 : decode cL_law 179 = .ok (.iastore, 1) := by decide +kernel
theorem dL_law_180 : decode cL_law 180 = .ok (.aload_n 3, 1) := by decide +kernel
theorem dL_law_181 : decode cL_law 181 = .ok (.iload 9, 2) := by decide +kernel
theorem dL_law_183 : decode cL_law 183 = .ok (.iconst 1, 1) := by decide +kernel
theorem dL_law_184 : decode cL_law 184 = .ok (.iadd, 1) := by decide +kernel
theorem dL_law_185 : decode cL_law 185 = .ok (.aload_n 3, 1) := by decide +kernel
theorem dL_law_186 : decode cL_law 186 = .ok (.iload 9, 2) := by decide +kernel
theorem dL_law_188 : decode cL_law 188 = .ok (.iaload, 1) := by decide +kernel
theorem dL_law_189 : decode cL_law 189 = .ok (.ifCond .ne 14, 3) := by decide +kernel
theorem dL_law_192 : decode cL_law 192 = .ok (.iload 8, 2) := by decide +kernel
theorem dL_law_194 : decode cL_law 194 = .ok (.iconst 3, 1) := by decide +kernel
theorem dL_law_195 : decode cL_law 195 = .ok (.ishr, 1) := by decide +kernel
theorem dL_law_196 : decode cL_law 196 = .ok (.iconst 2, 1) := by decide +kernel
theorem dL_law_197 : decode cL_law 197 = .ok (.invokestatic 94, 3) := by decide +kernel
theorem dL_law_200 : decode cL_law 200 = .ok (.goto 23, 3) := by decide +kernel
theorem dL_law_203 : decode cL_law 203 = .ok (.aload_n 3, 1) := by decide +kernel
theorem dL_law_204 : decode cL_law 204 = .ok (.iload 9, 2) := by decide +kernel
theorem dL_law_206 : decode cL_law 206 = .ok (.iaload, 1) := by decide +kernel
theorem dL_law_207 : decode cL_law 207 = .ok (.iconst 4, 1) := by decide +kernel
theorem dL_law_208 : decode cL_law 208 = .ok (.if_icmp .ne 7, 3) := by decide +kernel
theorem dL_law_211 : decode cL_law 211 = .ok (.iconst 0, 1) := by decide +kernel
theorem dL_law_212 : decode cL_law 212 = .ok (.goto 11, 3) := by decide +kernel
theorem dL_law_215 : decode cL_law 215 = .ok (.iload 8, 2) := by decide +kernel
theorem dL_law_217 : decode cL_law 217 = .ok (.iconst 3, 1) := by decide +kernel
theorem dL_law_218 : decode cL_law 218 = .ok (.ishr, 1) := by decide +kernel
theorem dL_law_219 : decode cL_law 219 = .ok (.iconst 4, 1) := by decide +kernel
theorem dL_law_220 : decode cL_law 220 = .ok (.invokestatic 94, 3) := by decide +kernel
theorem dL_law_223 : decode cL_law 223 = .ok (.iastore, 1) := by decide +kernel
theorem dL_law_224 : decode cL_law 224 = .ok (.aload_n 3, 1) := by decide +kernel
theorem dL_law_225 : decode cL_law 225 = .ok (.iload 9, 2) := by decide +kernel
theorem dL_law_227 : decode cL_law 227 = .ok (.iconst 2, 1) := by decide +kernel
theorem dL_law_228 : decode cL_law 228 = .ok (.iadd, 1) := by decide +kernel
theorem dL_law_229 : decode cL_law 229 = .ok (.iload 8, 2) := by decide +kernel
theorem dL_law_231 : decode cL_law 231 = .ok (.bipush 6, 2) := by decide +kernel
theorem dL_law_233 : decode cL_law 233 = .ok (.ishr, 1) := by decide +kernel
theorem dL_law_234 : decode cL_law 234 = .ok (.sipush 200, 3) := by decide +kernel
theorem dL_law_237 : decode cL_law 237 = .ok (.invokestatic 94, 3) := by decide +kernel
theorem dL_law_240 : decode cL_law 240 = .ok (.iastore, 1) := by decide +kernel
theorem dL_law_241 : decode cL_law 241 = .ok (.aload_n 3, 1) := by decide +kernel
theorem dL_law_242 : decode cL_law 242 = .ok (.iload 9, 2) := by decide +kernel
theorem dL_law_244 : decode cL_law 244 = .ok (.iconst 3, 1) := by decide +kernel
theorem dL_law_245 : decode cL_law 245 = .ok (.iadd, 1) := by decide +kernel
theorem dL_law_246 : decode cL_law 246 = .ok (.iconst (-1), 1) := by decide +kernel
theorem dL_law_247 : decode cL_law 247 = .ok (.iastore, 1) := by decide +kernel
theorem dL_law_248 : decode cL_law 248 = .ok (.aload_n 1, 1) := by decide +kernel
theorem dL_law_249 : decode cL_law 249 = .ok (.aload_n 3, 1) := by decide +kernel
theorem dL_law_250 : decode cL_law 250 = .ok (.iload 9, 2) := by decide +kernel
theorem dL_law_252 : decode cL_law 252 = .ok (.iaload, 1) := by decide +kernel
theorem dL_law_253 : decode cL_law 253 = .ok (.aload_n 3, 1) := by decide +kernel
theorem dL_law_254 : decode cL_law 254 = .ok (.iload 9, 2) := by decide +kernel
theorem dL_law_256 : decode cL_law 256 = .ok (.iconst 1, 1) := by decide +kernel
theorem dL_law_257 : decode cL_law 257 = .ok (.iadd, 1) := by decide +kernel
theorem dL_law_258 : decode cL_law 258 = .ok (.iaload, 1) := by decide +kernel
theorem dL_law_259 : decode cL_law 259 = .ok (.aload_n 3, 1) := by decide +kernel
theorem dL_law_260 : decode cL_law 260 = .ok (.iload 9, 2) := by decide +kernel
theorem dL_law_262 : decode cL_law 262 = .ok (.iconst 2, 1) := by decide +kernel
theorem dL_law_263 : decode cL_law 263 = .ok (.iadd, 1) := by decide +kernel
theorem dL_law_264 : decode cL_law 264 = .ok (.iaload, 1) := by decide +kernel
theorem dL_law_265 : decode cL_law 265 = .ok (.invokevirtual 100, 3) := by decide +kernel
theorem dL_law_268 : decode cL_law 268 = .ok (.iload 7, 2) := by decide +kernel
theorem dL_law_270 : decode cL_law 270 = .ok (.if_icmp .eq 5, 3) := by decide +kernel
theorem dL_law_273 : decode cL_law 273 = .ok (.iconst 0, 1) := by decide +kernel
theorem dL_law_274 : decode cL_law 274 = .ok (.ireturn, 1) := by decide +kernel
theorem dL_law_275 : decode cL_law 275 = .ok (.iinc 7 1, 3) := by decide +kernel
theorem dL_law_278 : decode cL_law 278 = .ok (.goto (-131), 3) := by decide +kernel
theorem dL_law_281 : decode cL_law 281 = .ok (.iconst 0, 1) := by decide +kernel
theorem dL_law_282 : decode cL_law 282 = .ok (.istore 7, 2) := by decide +kernel
theorem dL_law_284 : decode cL_law 284 = .ok (.iload 7, 2) := by decide +kernel
theorem dL_law_286 : decode cL_law 286 = .ok (.bipush 16, 2) := by decide +kernel
theorem dL_law_288 : decode cL_law 288 = .ok (.if_icmp .ge 636, 3) := by decide +kernel
theorem dL_law_291 : decode cL_law 291 = .ok (.aload_n 0, 1) := by decide +kernel
theorem dL_law_292 : decode cL_law 292 = .ok (.bipush 6, 2) := by decide +kernel
theorem dL_law_294 : decode cL_law 294 = .ok (.iload 7, 2) := by decide +kernel
theorem dL_law_296 : decode cL_law 296 = .ok (.iadd, 1) := by decide +kernel
theorem dL_law_297 : decode cL_law 297 = .ok (.invokestatic 90, 3) := by decide +kernel
theorem dL_law_300 : decode cL_law 300 = .ok (.istore 8, 2) := by decide +kernel
theorem dL_law_302 : decode cL_law 302 = .ok (.iload 8, 2) := by decide +kernel
theorem dL_law_304 : decode cL_law 304 = .ok (.bipush 8, 2) := by decide +kernel
theorem dL_law_306 : decode cL_law 306 = .ok (.invokestatic 94, 3) := by decide +kernel
theorem dL_law_309 : decode cL_law 309 = .ok (.istore 9, 2) := by decide +kernel
theorem dL_law_311 : decode cL_law 311 = .ok (.iload 8, 2) := by decide +kernel
theorem dL_law_313 : decode cL_law 313 = .ok (.iconst 3, 1) := by decide +kernel
theorem dL_law_314 : decode cL_law 314 = .ok (.ishr, 1) := by decide +kernel
theorem dL_law_315 : decode cL_law 315 = .ok (.iconst 5, 1) := by decide +kernel
theorem dL_law_316 : decode cL_law 316 = .ok (.invokestatic 94, 3) := by decide +kernel
theorem dL_law_319 : decode cL_law 319 = .ok (.istore 10, 2) := by decide +kernel
theorem dL_law_321 : decode cL_law 321 = .ok (.bipush 10, 2) := by decide +kernel
theorem dL_law_323 : decode cL_law 323 = .ok (.iload 10, 2) := by decide +kernel
theorem dL_law_325 : decode cL_law 325 = .ok (.imul, 1) := by decide +kernel
theorem dL_law_326 : decode cL_law 326 = .ok (.istore 11, 2) := by decide +kernel
theorem dL_law_328 : decode cL_law 328 = .ok (.iload 8, 2) := by decide +kernel
theorem dL_law_330 : decode cL_law 330 = .ok (.bipush 6, 2) := by decide +kernel
theorem dL_law_332 : decode cL_law 332 = .ok (.ishr, 1) := by decide +kernel
theorem dL_law_333 : decode cL_law 333 = .ok (.bipush 64, 2) := by decide +kernel
theorem dL_law_335 : decode cL_law 335 = .ok (.invokestatic 94, 3) := by decide +kernel
theorem dL_law_338 : decode cL_law 338 = .ok (.istore 12, 2) := by decide +kernel
theorem dL_law_340 : decode cL_law 340 = .ok (.iload 9, 2) := by decide +kernel
theorem dL_law_342 : decode cL_law 342 = .ok (.iconst 2, 1) := by decide +kernel
theorem dL_law_343 : decode cL_law 343 = .ok (.if_icmp .lt 9, 3) := by decide +kernel
theorem dL_law_346 : decode cL_law 346 = .ok (.iload 7, 2) := by decide +kernel
theorem dL_law_348 : decode cL_law 348 = .ok (.iconst 5, 1) := by decide +kernel
theorem dL_law_349 : decode cL_law 349 = .ok (.if_icmp .ge 218, 3) := by decide +kernel
theorem dL_law_352 : decode cL_law 352 = .ok (.iload 7, 2) := by decide +kernel
theorem dL_law_354 : decode cL_law 354 = .ok (.iconst 5, 1) := by decide +kernel
theorem dL_law_355 : decode cL_law 355 = .ok (.if_icmp .ge 8, 3) := by decide +kernel
theorem dL_law_358 : decode cL_law 358 = .ok (.iload 7, 2) := by decide +kernel
theorem dL_law_360 : decode cL_law 360 = .ok (.goto 5, 3) := by decide +kernel
theorem dL_law_363 : decode cL_law 363 = .ok (.iload 10, 2) := by decide +kernel
theorem dL_law_365 : decode cL_law 365 = .ok (.istore 10, 2) := by decide +kernel
theorem dL_law_367 : decode cL_law 367 = .ok (.bipush 10, 2) := by decide +kernel
theorem dL_law_369 : decode cL_law 369 = .ok (.iload 10, 2) := by decide +kernel
theorem dL_law_371 : decode cL_law 371 = .ok (.imul, 1) := by decide +kernel
theorem dL_law_372 : decode cL_law 372 = .ok (.istore 11, 2) := by decide +kernel
theorem dL_law_374 : decode cL_law 374 = .ok (.iload 8, 2) := by decide +kernel
theorem dL_law_376 : decode cL_law 376 = .ok (.bipush 9, 2) := by decide +kernel
theorem dL_law_378 : decode cL_law 378 = .ok (.ishr, 1) := by decide +kernel
theorem dL_law_379 : decode cL_law 379 = .ok (.iconst 3, 1) := by decide +kernel
theorem dL_law_380 : decode cL_law 380 = .ok (.invokestatic 94, 3) := by decide +kernel
theorem dL_law_383 : decode cL_law 383 = .ok (.istore 13, 2) := by decide +kernel
theorem dL_law_385 : decode cL_law 385 = .ok (.iconst 0, 1) := by decide +kernel
theorem dL_law_386 : decode cL_law 386 = .ok (.istore 14, 2) := by decide +kernel
theorem dL_law_388 : decode cL_law 388 = .ok (.iconst 0, 1) := by decide +kernel
theorem dL_law_389 : decode cL_law 389 = .ok (.istore 15, 2) := by decide +kernel
theorem dL_law_391 : decode cL_law 391 = .ok (.iload 15, 2) := by decide +kernel
theorem dL_law_393 : decode cL_law 393 = .ok (.iconst 5, 1) := by decide +kernel
theorem dL_law_394 : decode cL_law 394 = .ok (.if_icmp .ge 33, 3) := by decide +kernel
theorem dL_law_397 : decode cL_law 397 = .ok (.iload 14, 2) := by decide +kernel
theorem dL_law_399 : decode cL_law 399 = .ok (.aload_n 3, 1) := by decide +kernel
theorem dL_law_400 : decode cL_law 400 = .ok (.bipush 10, 2) := by decide +kernel
theorem dL_law_402 : decode cL_law 402 = .ok (.iload 15, 2) := by decide +kernel
theorem dL_law_404 : decode cL_law 404 = .ok (.imul, 1) := by decide +kernel
theorem dL_law_405 : decode cL_law 405 = .ok (.iconst 3, 1) := by decide +kernel
theorem dL_law_406 : decode cL_law 406 = .ok (.iadd, 1) := by decide +kernel
theorem dL_law_407 : decode cL_law 407 = .ok (.iaload, 1) := by decide +kernel
theorem dL_law_408 : decode cL_law 408 = .ok (.iload 13, 2) := by decide +kernel
theorem dL_law_410 : decode cL_law 410 = .ok (.if_icmp .ne 7, 3) := by decide +kernel
theorem dL_law_413 : decode cL_law 413 = .ok (.iconst 1, 1) := by decide +kernel
theorem dL_law_414 : decode cL_law 414 = .ok (.goto 4, 3) := by decide +kernel
theorem dL_law_417 : decode cL_law 417 = .ok (.iconst 0, 1) := by decide +kernel
theorem dL_law_418 : decode cL_law 418 = .ok (.iadd, 1) := by decide +kernel
theorem dL_law_419 : decode cL_law 419 = .ok (.istore 14, 2) := by decide +kernel
theorem dL_law_421 : decode cL_law 421 = .ok (.iinc 15 1, 3) := by decide +kernel
theorem dL_law_424 : decode cL_law 424 = .ok (.goto (-33), 3) := by decide +kernel
theorem dL_law_427 : decode cL_law 427 = .ok (.iload 13, 2) := by decide +kernel
theorem dL_law_429 : decode cL_law 429 = .ok (.iconst 2, 1) := by decide +kernel
theorem dL_law_430 : decode cL_law 430 = .ok (.if_icmp .eq 30, 3) := by decide +kernel
theorem dL_law_433 : decode cL_law 433 = .ok (.iload 13, 2) := by decide +kernel
theorem dL_law_435 : decode cL_law 435 = .ok (.ifCond .ne 10, 3) := by decide +kernel
theorem dL_law_438 : decode cL_law 438 = .ok (.aload_n 3, 1) := by decide +kernel
theorem dL_law_439 : decode cL_law 439 = .ok (.iload 11, 2) := by decide +kernel
theorem dL_law_441 : decode cL_law 441 = .ok (.iaload, 1) := by decide +kernel
theorem dL_law_442 : decode cL_law 442 = .ok (.ifCond .eq 18, 3) := by decide +kernel
theorem dL_law_445 : decode cL_law 445 = .ok (.iload 13, 2) := by decide +kernel
theorem dL_law_447 : decode cL_law 447 = .ok (.iconst 1, 1) := by decide +kernel
theorem dL_law_448 : decode cL_law 448 = .ok (.if_icmp .ne 16, 3) := by decide +kernel
theorem dL_law_451 : decode cL_law 451 = .ok (.iload 10, 2) := by decide +kernel
theorem dL_law_453 : decode cL_law 453 = .ok (.aload_n 3, 1) := by decide +kernel
theorem dL_law_454 : decode cL_law 454 = .ok (.invokestatic 24, 3) := by decide +kernel
theorem dL_law_457 : decode cL_law 457 = .ok (.ifCond .eq 7, 3) := by decide +kernel
theorem dL_law_460 : decode cL_law 460 = .ok (.iconst 1, 1) := by decide +kernel
theorem dL_law_461 : decode cL_law 461 = .ok (.goto 4, 3) := by decide +kernel
theorem dL_law_464 : decode cL_law 464 = .ok (.iconst 0, 1) := by decide +kernel
theorem dL_law_465 : decode cL_law 465 = .ok (.istore 15, 2) := by decide +kernel
theorem dL_law_467 : decode cL_law 467 = .ok (.aload_n 3, 1) := by decide +kernel
theorem dL_law_468 : decode cL_law 468 = .ok (.iload 11, 2) := by decide +kernel
theorem dL_law_470 : decode cL_law 470 = .ok (.iconst 3, 1) := by decide +kernel
theorem dL_law_471 : decode cL_law 471 = .ok (.iadd, 1) := by decide +kernel
theorem dL_law_472 : decode cL_law 472 = .ok (.iaload, 1) := by decide +kernel
theorem dL_law_473 : decode cL_law 473 = .ok (.ifCond .lt 30, 3) := by decide +kernel
theorem dL_law_476 : decode cL_law 476 = .ok (.aload_n 1, 1) := by decide +kernel
theorem dL_law_477 : decode cL_law 477 = .ok (.iload 10, 2) := by decide +kernel
theorem dL_law_479 : decode cL_law 479 = .ok (.invokevirtual 103, 3) := by decide +kernel
theorem dL_law_482 : decode cL_law 482 = .ok (.aload_n 3, 1) := by decide +kernel
theorem dL_law_483 : decode cL_law 483 = .ok (.iload 11, 2) := by decide +kernel
theorem dL_law_485 : decode cL_law 485 = .ok (.iconst 3, 1) := by decide +kernel
theorem dL_law_486 : decode cL_law 486 = .ok (.iadd, 1) := by decide +kernel
theorem dL_law_487 : decode cL_law 487 = .ok (.iaload, 1) := by decide +kernel
theorem dL_law_488 : decode cL_law 488 = .ok (.if_icmp .eq 5, 3) := by decide +kernel
theorem dL_law_491 : decode cL_law 491 = .ok (.iconst 0, 1) := by decide +kernel
theorem dL_law_492 : decode cL_law 492 = .ok (.ireturn, 1) := by decide +kernel
theorem dL_law_493 : decode cL_law 493 = .ok (.aload_n 3, 1) := by decide +kernel
theorem dL_law_494 : decode cL_law 494 = .ok (.iload 11, 2) := by decide +kernel
theorem dL_law_496 : decode cL_law 496 = .ok (.iconst 3, 1) := by decide +kernel
theorem dL_law_497 : decode cL_law 497 = .ok (.iadd, 1) := by decide +kernel
theorem dL_law_498 : decode cL_law 498 = .ok (.iconst (-1), 1) := by decide +kernel
theorem dL_law_499 : decode cL_law 499 = .ok (.iastore, 1) := by decide +kernel
theorem dL_law_500 : decode cL_law 500 = .ok (.goto 64, 3) := by decide +kernel
theorem dL_law_503 : decode cL_law 503 = .ok (.aload_n 1, 1) := by decide +kernel
theorem dL_law_504 : decode cL_law 504 = .ok (.iload 10, 2) := by decide +kernel
theorem dL_law_506 : decode cL_law 506 = .ok (.iload 13, 2) := by decide +kernel
theorem dL_law_508 : decode cL_law 508 = .ok (.invokevirtual 106, 3) := by decide +kernel
theorem dL_law_511 : decode cL_law 511 = .ok (.iload 15, 2) := by decide +kernel
theorem dL_law_513 : decode cL_law 513 = .ok (.ifCond .ne 8, 3) := by decide +kernel
theorem dL_law_516 : decode cL_law 516 = .ok (.ldc 109, 2) := by decide +kernel
theorem dL_law_518 : decode cL_law 518 = .ok (.goto 18, 3) := by decide +kernel
theorem dL_law_521 : decode cL_law 521 = .ok (.iload 14, 2) := by decide +kernel
theorem dL_law_523 : decode cL_law 523 = .ok (.iconst 2, 1) := by decide +kernel
theorem dL_law_524 : decode cL_law 524 = .ok (.if_icmp .ne 8, 3) := by decide +kernel
theorem dL_law_527 : decode cL_law 527 = .ok (.ldc 110, 2) := by decide +kernel
theorem dL_law_529 : decode cL_law 529 = .ok (.goto 7, 3) := by decide +kernel
theorem dL_law_532 : decode cL_law 532 = .ok (.iload 14, 2) := by decide +kernel
theorem dL_law_534 : decode cL_law 534 = .ok (.iconst 1, 1) := by decide +kernel
theorem dL_law_535 : decode cL_law 535 = .ok (.iadd, 1) := by decide +kernel
theorem dL_law_536 : decode cL_law 536 = .ok (.if_icmp .eq 5, 3) := by decide +kernel
theorem dL_law_539 : decode cL_law 539 = .ok (.iconst 0, 1) := by decide +kernel
theorem dL_law_540 : decode cL_law 540 = .ok (.ireturn, 1) := by decide +kernel
theorem dL_law_541 : decode cL_law 541 = .ok (.aload_n 3, 1) := by decide +kernel
theorem dL_law_542 : decode cL_law 542 = .ok (.iload 11, 2) := by decide +kernel
theorem dL_law_544 : decode cL_law 544 = .ok (.iconst 3, 1) := by decide +kernel
theorem dL_law_545 : decode cL_law 545 = .ok (.iadd, 1) := by decide +kernel
theorem dL_law_546 : decode cL_law 546 = .ok (.iload 15, 2) := by decide +kernel
theorem dL_law_548 : decode cL_law 548 = .ok (.ifCond .eq 14, 3) := by decide +kernel
theorem dL_law_551 : decode cL_law 551 = .ok (.iload 14, 2) := by decide +kernel
theorem dL_law_553 : decode cL_law 553 = .ok (.iconst 2, 1) := by decide +kernel
theorem dL_law_554 : decode cL_law 554 = .ok (.if_icmp .ge 8, 3) := by decide +kernel
theorem dL_law_557 : decode cL_law 557 = .ok (.iload 13, 2) := by decide +kernel
theorem dL_law_559 : decode cL_law 559 = .ok (.goto 4, 3) := by decide +kernel
theorem dL_law_562 : decode cL_law 562 = .ok (.iconst (-1), 1) := by decide +kernel
theorem dL_law_563 : decode cL_law 563 = .ok (.iastore, 1) := by decide +kernel
theorem dL_law_564 : decode cL_law 564 = .ok (.goto 307, 3) := by decide +kernel
theorem dL_law_567 : decode cL_law 567 = .ok (.iload 9, 2) := by decide +kernel
theorem dL_law_569 : decode cL_law 569 = .ok (.iconst 2, 1) := by decide +kernel
theorem dL_law_570 : decode cL_law 570 = .ok (.if_icmp .ne 166, 3) := by decide +kernel
theorem dL_law_573 : decode cL_law 573 = .ok (.iload 8, 2) := by decide +kernel
theorem dL_law_575 : decode cL_law 575 = .ok (.bipush 9, 2) := by decide +kernel
theorem dL_law_577 : decode cL_law 577 = .ok (.ishr, 1) := by decide +kernel
theorem dL_law_578 : decode cL_law 578 = .ok (.iconst 5, 1) := by decide +kernel
theorem dL_law_579 : decode cL_law 579 = .ok (.invokestatic 94, 3) := by decide +kernel
theorem dL_law_582 : decode cL_law 582 = .ok (.istore 13, 2) := by decide +kernel
theorem dL_law_584 : decode cL_law 584 = .ok (.iconst 1, 1) := by decide +kernel
theorem dL_law_585 : decode cL_law 585 = .ok (.iload 8, 2) := by decide +kernel
theorem dL_law_587 : decode cL_law 587 = .ok (.bipush 11, 2) := by decide +kernel
theorem dL_law_589 : decode cL_law 589 = .ok (.ishr, 1) := by decide +kernel
theorem dL_law_590 : decode cL_law 590 = .ok (.bipush 60, 2) := by decide +kernel
theorem dL_law_592 : decode cL_law 592 = .ok (.invokestatic 94, 3) := by decide +kernel
theorem dL_law_595 : decode cL_law 595 = .ok (.iadd, 1) := by decide +kernel
theorem dL_law_596 : decode cL_law 596 = .ok (.istore 14, 2) := by decide +kernel
theorem dL_law_598 : decode cL_law 598 = .ok (.aload_n 3, 1) := by decide +kernel
theorem dL_law_599 : decode cL_law 599 = .ok (.iload 11, 2) := by decide +kernel
theorem dL_law_601 : decode cL_law 601 = .ok (.iconst 2, 1) := by decide +kernel
theorem dL_law_602 : decode cL_law 602 = .ok (.iadd, 1) := by decide +kernel
theorem dL_law_603 : decode cL_law 603 = .ok (.iaload, 1) := by decide +kernel
theorem dL_law_604 : decode cL_law 604 = .ok (.iload 14, 2) := by decide +kernel
theorem dL_law_606 : decode cL_law 606 = .ok (.if_icmp .lt 7, 3) := by decide +kernel
theorem dL_law_609 : decode cL_law 609 = .ok (.iconst 1, 1) := by decide +kernel
theorem dL_law_610 : decode cL_law 610 = .ok (.goto 4, 3) := by decide +kernel
theorem dL_law_613 : decode cL_law 613 = .ok (.iconst 0, 1) := by decide +kernel
theorem dL_law_614 : decode cL_law 614 = .ok (.istore 15, 2) := by decide +kernel
theorem dL_law_616 : decode cL_law 616 = .ok (.iload 10, 2) := by decide +kernel
theorem dL_law_618 : decode cL_law 618 = .ok (.iload 13, 2) := by decide +kernel
theorem dL_law_620 : decode cL_law 620 = .ok (.if_icmp .eq 113, 3) := by decide +kernel
theorem dL_law_623 : decode cL_law 623 = .ok (.aload_n 2, 1) := by decide +kernel
theorem dL_law_624 : decode cL_law 624 = .ok (.bipush 7, 2) := by decide +kernel
theorem dL_law_626 : decode cL_law 626 = .ok (.iaload, 1) := by decide +kernel
theorem dL_law_627 : decode cL_law 627 = .ok (.bipush 8, 2) := by decide +kernel
theorem dL_law_629 : decode cL_law 629 = .ok (.if_icmp .ge 104, 3) := by decide +kernel
theorem dL_law_632 : decode cL_law 632 = .ok (.aload_n 1, 1) := by decide +kernel
theorem dL_law_633 : decode cL_law 633 = .ok (.iload 10, 2) := by decide +kernel
theorem dL_law_635 : decode cL_law 635 = .ok (.iload 13, 2) := by decide +kernel
theorem dL_law_637 : decode cL_law 637 = .ok (.iload 14, 2) := by decide +kernel
theorem dL_law_639 : decode cL_law 639 = .ok (.invokevirtual 111, 3) := by decide +kernel
theorem dL_law_642 : decode cL_law 642 = .ok (.iload 15, 2) := by decide +kernel
theorem dL_law_644 : decode cL_law 644 = .ok (.ifCond .eq 10, 3) := by decide +kernel
theorem dL_law_647 : decode cL_law 647 = .ok (.aload_n 2, 1) := by decide +kernel
theorem dL_law_648 : decode cL_law 648 = .ok (.bipush 7, 2) := by decide +kernel
theorem dL_law_650 : decode cL_law 650 = .ok (.iaload, 1) := by decide +kernel
theorem dL_law_651 : decode cL_law 651 = .ok (.goto 5, 3) := by decide +kernel
theorem dL_law_654 : decode cL_law 654 = .ok (.ldc 109, 2) := by decide +kernel
theorem dL_law_656 : decode cL_law 656 = .ok (.if_icmp .eq 5, 3) := by decide +kernel
theorem dL_law_659 : decode cL_law 659 = .ok (.iconst 0, 1) := by decide +kernel
theorem dL_law_660 : decode cL_law 660 = .ok (.ireturn, 1) := by decide +kernel
theorem dL_law_661 : decode cL_law 661 = .ok (.iload 15, 2) := by decide +kernel
theorem dL_law_663 : decode cL_law 663 = .ok (.ifCond .eq 70, 3) := by decide +kernel
theorem dL_law_666 : decode cL_law 666 = .ok (.aload 5, 2) := by decide +kernel
theorem dL_law_668 : decode cL_law 668 = .ok (.iconst 3, 1) := by decide +kernel
theorem dL_law_669 : decode cL_law 669 = .ok (.aload_n 2, 1) := by decide +kernel
theorem dL_law_670 : decode cL_law 670 = .ok (.bipush 7, 2) := by decide +kernel
theorem dL_law_672 : decode cL_law 672 = .ok (.iaload, 1) := by decide +kernel
theorem dL_law_673 : decode cL_law 673 = .ok (.imul, 1) := by decide +kernel
theorem dL_law_674 : decode cL_law 674 = .ok (.iload 10, 2) := by decide +kernel
theorem dL_law_676 : decode cL_law 676 = .ok (.iastore, 1) := by decide +kernel
theorem dL_law_677 : decode cL_law 677 = .ok (.aload 5, 2) := by decide +kernel
theorem dL_law_679 : decode cL_law 679 = .ok (.iconst 3, 1) := by decide +kernel
theorem dL_law_680 : decode cL_law 680 = .ok (.aload_n 2, 1) := by decide +kernel
theorem dL_law_681 : decode cL_law 681 = .ok (.bipush 7, 2) := by decide +kernel
theorem dL_law_683 : decode cL_law 683 = .ok (.iaload, 1) := by decide +kernel
theorem dL_law_684 : decode cL_law 684 = .ok (.imul, 1) := by decide +kernel
theorem dL_law_685 : decode cL_law 685 = .ok (.iconst 1, 1) := by decide +kernel
theorem dL_law_686 : decode cL_law 686 = .ok (.iadd, 1) := by decide +kernel
theorem dL_law_687 : decode cL_law 687 = .ok (.iload 13, 2) := by decide +kernel
theorem dL_law_689 : decode cL_law 689 = .ok (.iastore, 1) := by decide +kernel
theorem dL_law_690 : decode cL_law 690 = .ok (.aload 5, 2) := by decide +kernel
theorem dL_law_692 : decode cL_law 692 = .ok (.iconst 3, 1) := by decide +kernel
theorem dL_law_693 : decode cL_law 693 = .ok (.aload_n 2, 1) := by decide +kernel
theorem dL_law_694 : decode cL_law 694 = .ok (.bipush 7, 2) := by decide +kernel
theorem dL_law_696 : decode cL_law 696 = .ok (.dup2, 1) := by decide +kernel
theorem dL_law_697 : decode cL_law 697 = .ok (.iaload, 1) := by decide +kernel
theorem dL_law_698 : decode cL_law 698 = .ok (.dup_x2, 1) := by decide +kernel
theorem dL_law_699 : decode cL_law 699 = .ok (.iconst 1, 1) := by decide +kernel
theorem dL_law_700 : decode cL_law 700 = .ok (.iadd, 1) := by decide +kernel
theorem dL_law_701 : decode cL_law 701 = .ok (.iastore, 1) := by decide +kernel
theorem dL_law_702 : decode cL_law 702 = .ok (.imul, 1) := by decide +kernel
theorem dL_law_703 : decode cL_law 703 = .ok (.iconst 2, 1) := by decide +kernel
theorem dL_law_704 : decode cL_law 704 = .ok (.iadd, 1) := by decide +kernel
theorem dL_law_705 : decode cL_law 705 = .ok (.iload 14, 2) := by decide +kernel
theorem dL_law_707 : decode cL_law 707 = .ok (.iastore, 1) := by decide +kernel
theorem dL_law_708 : decode cL_law 708 = .ok (.aload_n 3, 1) := by decide +kernel
theorem dL_law_709 : decode cL_law 709 = .ok (.iload 11, 2) := by decide +kernel
theorem dL_law_711 : decode cL_law 711 = .ok (.iconst 2, 1) := by decide +kernel
theorem dL_law_712 : decode cL_law 712 = .ok (.iadd, 1) := by decide +kernel
theorem dL_law_713 : decode cL_law 713 = .ok (.dup2, 1) := by decide +kernel
theorem dL_law_714 : decode cL_law 714 = .ok (.iaload, 1) := by decide +kernel
theorem dL_law_715 : decode cL_law 715 = .ok (.iload 14, 2) := by decide +kernel
theorem dL_law_717 : decode cL_law 717 = .ok (.isub, 1) := by decide +kernel
theorem dL_law_718 : decode cL_law 718 = .ok (.iastore, 1) := by decide +kernel
theorem dL_law_719 : decode cL_law 719 = .ok (.aload_n 3, 1) := by decide +kernel
theorem dL_law_720 : decode cL_law 720 = .ok (.bipush 10, 2) := by decide +kernel
theorem dL_law_722 : decode cL_law 722 = .ok (.iload 13, 2) := by decide +kernel
theorem dL_law_724 : decode cL_law 724 = .ok (.imul, 1) := by decide +kernel
theorem dL_law_725 : decode cL_law 725 = .ok (.iconst 2, 1) := by decide +kernel
theorem dL_law_726 : decode cL_law 726 = .ok (.iadd, 1) := by decide +kernel
theorem dL_law_727 : decode cL_law 727 = .ok (.dup2, 1) := by decide +kernel
theorem dL_law_728 : decode cL_law 728 = .ok (.iaload, 1) := by decide +kernel
theorem dL_law_729 : decode cL_law 729 = .ok (.iload 14, 2) := by decide +kernel
theorem dL_law_731 : decode cL_law 731 = .ok (.iadd, 1) := by decide +kernel
theorem dL_law_732 : decode cL_law 732 = .ok (.iastore, 1) := by decide +kernel
theorem dL_law_733 : decode cL_law 733 = .ok (.goto 138, 3) := by decide +kernel
theorem dL_law_736 : decode cL_law 736 = .ok (.iload 9, 2) := by decide +kernel
theorem dL_law_738 : decode cL_law 738 = .ok (.iconst 3, 1) := by decide +kernel
theorem dL_law_739 : decode cL_law 739 = .ok (.if_icmp .ne 50, 3) := by decide +kernel
theorem dL_law_742 : decode cL_law 742 = .ok (.iconst 1, 1) := by decide +kernel
theorem dL_law_743 : decode cL_law 743 = .ok (.iload 8, 2) := by decide +kernel
theorem dL_law_745 : decode cL_law 745 = .ok (.bipush 9, 2) := by decide +kernel
theorem dL_law_747 : decode cL_law 747 = .ok (.ishr, 1) := by decide +kernel
theorem dL_law_748 : decode cL_law 748 = .ok (.bipush 100, 2) := by decide +kernel
theorem dL_law_750 : decode cL_law 750 = .ok (.invokestatic 94, 3) := by decide +kernel
theorem dL_law_753 : decode cL_law 753 = .ok (.iadd, 1) := by decide +kernel
theorem dL_law_754 : decode cL_law 754 = .ok (.istore 13, 2) := by decide +kernel
theorem dL_law_756 : decode cL_law 756 = .ok (.aload_n 3, 1) := by decide +kernel
theorem dL_law_757 : decode cL_law 757 = .ok (.iload 11, 2) := by decide +kernel
theorem dL_law_759 : decode cL_law 759 = .ok (.iconst 2, 1) := by decide +kernel
theorem dL_law_760 : decode cL_law 760 = .ok (.iadd, 1) := by decide +kernel
theorem dL_law_761 : decode cL_law 761 = .ok (.dup2, 1) := by decide +kernel
theorem dL_law_762 : decode cL_law 762 = .ok (.iaload, 1) := by decide +kernel
theorem dL_law_763 : decode cL_law 763 = .ok (.iload 13, 2) := by decide +kernel
theorem dL_law_765 : decode cL_law 765 = .ok (.iadd, 1) := by decide +kernel
theorem dL_law_766 : decode cL_law 766 = .ok (.iastore, 1) := by decide +kernel
theorem dL_law_767 : decode cL_law 767 = .ok (.aload_n 1, 1) := by decide +kernel
theorem dL_law_768 : decode cL_law 768 = .ok (.iload 10, 2) := by decide +kernel
theorem dL_law_770 : decode cL_law 770 = .ok (.iload 13, 2) := by decide +kernel
theorem dL_law_772 : decode cL_law 772 = .ok (.invokevirtual 114, 3) := by decide +kernel
theorem dL_law_775 : decode cL_law 775 = .ok (.aload_n 3, 1) := by decide +kernel
theorem dL_law_776 : decode cL_law 776 = .ok (.iload 11, 2) := by decide +kernel
theorem dL_law_778 : decode cL_law 778 = .ok (.iconst 2, 1) := by decide +kernel
theorem dL_law_779 : decode cL_law 779 = .ok (.iadd, 1) := by decide +kernel
theorem dL_law_780 : decode cL_law 780 = .ok (.iaload, 1) := by decide +kernel
theorem dL_law_781 : decode cL_law 781 = .ok (.if_icmp .eq 5, 3) := by decide +kernel
theorem dL_law_784 : decode cL_law 784 = .ok (.iconst 0, 1) := by decide +kernel
theorem dL_law_785 : decode cL_law 785 = .ok (.ireturn, 1) := by decide +kernel
theorem dL_law_786 : decode cL_law 786 = .ok (.goto 85, 3) := by decide +kernel
theorem dL_law_789 : decode cL_law 789 = .ok (.iconst 0, 1) := by decide +kernel
theorem dL_law_790 : decode cL_law 790 = .ok (.istore 13, 2) := by decide +kernel
theorem dL_law_792 : decode cL_law 792 = .ok (.iload 13, 2) := by decide +kernel
theorem dL_law_794 : decode cL_law 794 = .ok (.iconst 3, 1) := by decide +kernel
theorem dL_law_795 : decode cL_law 795 = .ok (.if_icmp .ge 76, 3) := by decide +kernel
theorem dL_law_798 : decode cL_law 798 = .ok (.iload 8, 2) := by decide +kernel
theorem dL_law_800 : decode cL_law 800 = .ok (.bipush 9, 2) := by decide +kernel
theorem dL_law_802 : decode cL_law 802 = .ok (.iload 13, 2) := by decide +kernel
theorem dL_law_804 : decode cL_law 804 = .ok (.iadd, 1) := by decide +kernel
theorem dL_law_805 : decode cL_law 805 = .ok (.ishr, 1) := by decide +kernel
theorem dL_law_806 : decode cL_law 806 = .ok (.iconst 2, 1) := by decide +kernel
theorem dL_law_807 : decode cL_law 807 = .ok (.invokestatic 94, 3) := by decide +kernel
theorem dL_law_810 : decode cL_law 810 = .ok (.istore 14, 2) := by decide +kernel
theorem dL_law_812 : decode cL_law 812 = .ok (.iload 12, 2) := by decide +kernel
theorem dL_law_814 : decode cL_law 814 = .ok (.iload 14, 2) := by decide +kernel
theorem dL_law_816 : decode cL_law 816 = .ok (.aload_n 2, 1) := by decide +kernel
theorem dL_law_817 : decode cL_law 817 = .ok (.aload_n 3, 1) := by decide +kernel
theorem dL_law_818 : decode cL_law 818 = .ok (.aload 4, 2) := by decide +kernel
theorem dL_law_820 : decode cL_law 820 = .ok (.aload 5, 2) := by decide +kernel
theorem dL_law_822 : decode cL_law 822 = .ok (.aload 6, 2) := by decide +kernel
theorem dL_law_824 : decode cL_law 824 = .ok (.invokestatic 74, 3) := by decide +kernel
theorem dL_law_827 : decode cL_law 827 = .ok (.istore 15, 2) := by decide +kernel
theorem dL_law_829 : decode cL_law 829 = .ok (.aload_n 1, 1) := by decide +kernel
theorem dL_law_830 : decode cL_law 830 = .ok (.iload 12, 2) := by decide +kernel
theorem dL_law_832 : decode cL_law 832 = .ok (.iload 14, 2) := by decide +kernel
theorem dL_law_834 : decode cL_law 834 = .ok (.invokevirtual 117, 3) := by decide +kernel
theorem dL_law_837 : decode cL_law 837 = .ok (.iload 15, 2) := by decide +kernel
theorem dL_law_839 : decode cL_law 839 = .ok (.if_icmp .ne 24, 3) := by decide +kernel
theorem dL_law_842 : decode cL_law 842 = .ok (.aload_n 1, 1) := by decide +kernel
theorem dL_law_843 : decode cL_law 843 = .ok (.iload 12, 2) := by decide +kernel
theorem dL_law_845 : decode cL_law 845 = .ok (.iload 13, 2) := by decide +kernel
theorem dL_law_847 : decode cL_law 847 = .ok (.iadd, 1) := by decide +kernel
theorem dL_law_848 : decode cL_law 848 = .ok (.bipush 64, 2) := by decide +kernel
theorem dL_law_850 : decode cL_law 850 = .ok (.irem, 1) := by decide +kernel
theorem dL_law_851 : decode cL_law 851 = .ok (.aload_n 2, 1) := by decide +kernel
theorem dL_law_852 : decode cL_law 852 = .ok (.aload_n 3, 1) := by decide +kernel
theorem dL_law_853 : decode cL_law 853 = .ok (.aload 4, 2) := by decide +kernel
theorem dL_law_855 : decode cL_law 855 = .ok (.aload 5, 2) := by decide +kernel
theorem dL_law_857 : decode cL_law 857 = .ok (.invokestatic 119, 3) := by decide +kernel
theorem dL_law_860 : decode cL_law 860 = .ok (.ifCond .ne 5, 3) := by decide +kernel
theorem dL_law_863 : decode cL_law 863 = .ok (.iconst 0, 1) := by decide +kernel
theorem dL_law_864 : decode cL_law 864 = .ok (.ireturn, 1) := by decide +kernel
theorem dL_law_865 : decode cL_law 865 = .ok (.iinc 13 1, 3) := by decide +kernel
theorem dL_law_868 : decode cL_law 868 = .ok (.goto (-76), 3) := by decide +kernel
theorem dL_law_871 : decode cL_law 871 = .ok (.aload_n 1, 1) := by decide +kernel
theorem dL_law_872 : decode cL_law 872 = .ok (.iload 12, 2) := by decide +kernel
theorem dL_law_874 : decode cL_law 874 = .ok (.aload_n 2, 1) := by decide +kernel
theorem dL_law_875 : decode cL_law 875 = .ok (.aload_n 3, 1) := by decide +kernel
theorem dL_law_876 : decode cL_law 876 = .ok (.aload 4, 2) := by decide +kernel
theorem dL_law_878 : decode cL_law 878 = .ok (.aload 5, 2) := by decide +kernel
theorem dL_law_880 : decode cL_law 880 = .ok (.invokestatic 119, 3) := by decide +kernel
theorem dL_law_883 : decode cL_law 883 = .ok (.ifCond .eq 33, 3) := by decide +kernel
theorem dL_law_886 : decode cL_law 886 = .ok (.aload_n 1, 1) := by decide +kernel
theorem dL_law_887 : decode cL_law 887 = .ok (.iload 10, 2) := by decide +kernel
theorem dL_law_889 : decode cL_law 889 = .ok (.iload 12, 2) := by decide +kernel
theorem dL_law_891 : decode cL_law 891 = .ok (.iconst 1, 1) := by decide +kernel
theorem dL_law_892 : decode cL_law 892 = .ok (.iload 8, 2) := by decide +kernel
theorem dL_law_894 : decode cL_law 894 = .ok (.bipush 13, 2) := by decide +kernel
theorem dL_law_896 : decode cL_law 896 = .ok (.ishr, 1) := by decide +kernel
theorem dL_law_897 : decode cL_law 897 = .ok (.iconst 4, 1) := by decide +kernel
theorem dL_law_898 : decode cL_law 898 = .ok (.invokestatic 94, 3) := by decide +kernel
theorem dL_law_901 : decode cL_law 901 = .ok (.iadd, 1) := by decide +kernel
theorem dL_law_902 : decode cL_law 902 = .ok (.aload_n 2, 1) := by decide +kernel
theorem dL_law_903 : decode cL_law 903 = .ok (.aload_n 3, 1) := by decide +kernel
theorem dL_law_904 : decode cL_law 904 = .ok (.aload 4, 2) := by decide +kernel
theorem dL_law_906 : decode cL_law 906 = .ok (.aload 5, 2) := by decide +kernel
theorem dL_law_908 : decode cL_law 908 = .ok (.aload 6, 2) := by decide +kernel
theorem dL_law_910 : decode cL_law 910 = .ok (.invokestatic 123, 3) := by decide +kernel
theorem dL_law_913 : decode cL_law 913 = .ok (.ifCond .ne 5, 3) := by decide +kernel
theorem dL_law_916 : decode cL_law 916 = .ok (.iconst 0, 1) := by decide +kernel
theorem dL_law_917 : decode cL_law 917 = .ok (.ireturn, 1) := by decide +kernel
theorem dL_law_918 : decode cL_law 918 = .ok (.iinc 7 1, 3) := by decide +kernel
theorem dL_law_921 : decode cL_law 921 = .ok (.goto (-637), 3) := by decide +kernel
theorem dL_law_924 : decode cL_law 924 = .ok (.iconst 1, 1) := by decide +kernel
theorem dL_law_925 : decode cL_law 925 = .ok (.ireturn, 1) := by decide +kernel
