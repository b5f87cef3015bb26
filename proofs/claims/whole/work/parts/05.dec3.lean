/-! decode rows (printed by the kit's program) -/
theorem dX6_init_0 : decode cX6_init 0 = .ok (.aload_n 0, 1) := by decide +kernel
theorem dX6_init_1 : decode cX6_init 1 = .ok (.invokespecial 1, 3) := by decide +kernel
theorem dX6_init_4 : decode cX6_init 4 = .ok (.aload_n 0, 1) := by decide +kernel
theorem dX6_init_5 : decode cX6_init 5 = .ok (.sipush 349, 3) := by decide +kernel
theorem dX6_init_8 : decode cX6_init 8 = .ok (.newarray .int, 2) := by decide +kernel
theorem dX6_init_10 : decode cX6_init 10 = .ok (.putfield 7, 3) := by decide +kernel
theorem dX6_init_13 : decode cX6_init 13 = .ok (.aload_n 0, 1) := by decide +kernel
theorem dX6_init_14 : decode cX6_init 14 = .ok (.sipush 349, 3) := by decide +kernel
theorem dX6_init_17 : decode cX6_init 17 = .ok (.newarray .int, 2) := by decide +kernel
theorem dX6_init_19 : decode cX6_init 19 = .ok (.putfield 13, 3) := by decide +kernel
theorem dX6_init_22 : decode cX6_init 22 = .ok (.aload_n 0, 1) := by decide +kernel
theorem dX6_init_23 : decode cX6_init 23 = .ok (.sipush 1396, 3) := by decide +kernel
theorem dX6_init_26 : decode cX6_init 26 = .ok (.newarray .int, 2) := by decide +kernel
theorem dX6_init_28 : decode cX6_init 28 = .ok (.putfield 16, 3) := by decide +kernel
theorem dX6_init_31 : decode cX6_init 31 = .ok (.aload_n 0, 1) := by decide +kernel
theorem dX6_init_32 : decode cX6_init 32 = .ok (.bipush 80, 2) := by decide +kernel
theorem dX6_init_34 : decode cX6_init 34 = .ok (.newarray .int, 2) := by decide +kernel
theorem dX6_init_36 : decode cX6_init 36 = .ok (.putfield 19, 3) := by decide +kernel
theorem dX6_init_39 : decode cX6_init 39 = .ok (.aload_n 0, 1) := by decide +kernel
theorem dX6_init_40 : decode cX6_init 40 = .ok (.bipush 6, 2) := by decide +kernel
theorem dX6_init_42 : decode cX6_init 42 = .ok (.newarray .int, 2) := by decide +kernel
theorem dX6_init_44 : decode cX6_init 44 = .ok (.putfield 22, 3) := by decide +kernel
theorem dX6_init_47 : decode cX6_init 47 = .ok (.aload_n 0, 1) := by decide +kernel
theorem dX6_init_48 : decode cX6_init 48 = .ok (.bipush 6, 2) := by decide +kernel
theorem dX6_init_50 : decode cX6_init 50 = .ok (.newarray .int, 2) := by decide +kernel
theorem dX6_init_52 : decode cX6_init 52 = .ok (.putfield 25, 3) := by decide +kernel
theorem dX6_init_55 : decode cX6_init 55 = .ok (.aload_n 0, 1) := by decide +kernel
theorem dX6_init_56 : decode cX6_init 56 = .ok (.bipush 6, 2) := by decide +kernel
theorem dX6_init_58 : decode cX6_init 58 = .ok (.newarray .int, 2) := by decide +kernel
theorem dX6_init_60 : decode cX6_init 60 = .ok (.putfield 28, 3) := by decide +kernel
theorem dX6_init_63 : decode cX6_init 63 = .ok (.aload_n 0, 1) := by decide +kernel
theorem dX6_init_64 : decode cX6_init 64 = .ok (.bipush 6, 2) := by decide +kernel
theorem dX6_init_66 : decode cX6_init 66 = .ok (.newarray .int, 2) := by decide +kernel
theorem dX6_init_68 : decode cX6_init 68 = .ok (.putfield 31, 3) := by decide +kernel
theorem dX6_init_71 : decode cX6_init 71 = .ok (.aload_n 0, 1) := by decide +kernel
theorem dX6_init_72 : decode cX6_init 72 = .ok (.getfield 7, 3) := by decide +kernel
theorem dX6_init_75 : decode cX6_init 75 = .ok (.iconst 0, 1) := by decide +kernel
theorem dX6_init_76 : decode cX6_init 76 = .ok (.iconst 5, 1) := by decide +kernel
theorem dX6_init_77 : decode cX6_init 77 = .ok (.iastore, 1) := by decide +kernel
theorem dX6_init_78 : decode cX6_init 78 = .ok (.aload_n 0, 1) := by decide +kernel
theorem dX6_init_79 : decode cX6_init 79 = .ok (.getfield 7, 3) := by decide +kernel
theorem dX6_init_82 : decode cX6_init 82 = .ok (.iconst 1, 1) := by decide +kernel
theorem dX6_init_83 : decode cX6_init 83 = .ok (.bipush 10, 2) := by decide +kernel
theorem dX6_init_85 : decode cX6_init 85 = .ok (.iastore, 1) := by decide +kernel
theorem dX6_init_86 : decode cX6_init 86 = .ok (.aload_n 0, 1) := by decide +kernel
theorem dX6_init_87 : decode cX6_init 87 = .ok (.getfield 7, 3) := by decide +kernel
theorem dX6_init_90 : decode cX6_init 90 = .ok (.iconst 2, 1) := by decide +kernel
theorem dX6_init_91 : decode cX6_init 91 = .ok (.bipush 50, 2) := by decide +kernel
theorem dX6_init_93 : decode cX6_init 93 = .ok (.iastore, 1) := by decide +kernel
theorem dX6_init_94 : decode cX6_init 94 = .ok (.return_, 1) := by decide +kernel
theorem dX6_copy_0 : decode cX6_copy 0 = .ok (.iconst 0, 1) := by decide +kernel
theorem dX6_copy_1 : decode cX6_copy 1 = .ok (.istore 4, 2) := by decide +kernel
theorem dX6_copy_3 : decode cX6_copy 3 = .ok (.iload 4, 2) := by decide +kernel
theorem dX6_copy_5 : decode cX6_copy 5 = .ok (.sipush 349, 3) := by decide +kernel
theorem dX6_copy_8 : decode cX6_copy 8 = .ok (.if_icmp .ge 21, 3) := by decide +kernel
theorem dX6_copy_11 : decode cX6_copy 11 = .ok (.aload_n 2, 1) := by decide +kernel
theorem dX6_copy_12 : decode cX6_copy 12 = .ok (.iload_n 3, 1) := by decide +kernel
theorem dX6_copy_13 : decode cX6_copy 13 = .ok (.iload 4, 2) := by decide +kernel
theorem dX6_copy_15 : decode cX6_copy 15 = .ok (.iadd, 1) := by decide +kernel
theorem dX6_copy_16 : decode cX6_copy 16 = .ok (.aload_n 0, 1) := by decide +kernel
theorem dX6_copy_17 : decode cX6_copy 17 = .ok (.iload_n 1, 1) := by decide +kernel
theorem dX6_copy_18 : decode cX6_copy 18 = .ok (.iload 4, 2) := by decide +kernel
theorem dX6_copy_20 : decode cX6_copy 20 = .ok (.iadd, 1) := by decide +kernel
theorem dX6_copy_21 : decode cX6_copy 21 = .ok (.iaload, 1) := by decide +kernel
theorem dX6_copy_22 : decode cX6_copy 22 = .ok (.iastore, 1) := by decide +kernel
theorem dX6_copy_23 : decode cX6_copy 23 = .ok (.iinc 4 1, 3) := by decide +kernel
theorem dX6_copy_26 : decode cX6_copy 26 = .ok (.goto (-23), 3) := by decide +kernel
theorem dX6_copy_29 : decode cX6_copy 29 = .ok (.return_, 1) := by decide +kernel
theorem dX6_within_0 : decode cX6_within 0 = .ok (.iload_n 0, 1) := by decide +kernel
theorem dX6_within_1 : decode cX6_within 1 = .ok (.iload_n 1, 1) := by decide +kernel
theorem dX6_within_2 : decode cX6_within 2 = .ok (.if_icmp .lt 12, 3) := by decide +kernel
theorem dX6_within_5 : decode cX6_within 5 = .ok (.iload_n 0, 1) := by decide +kernel
theorem dX6_within_6 : decode cX6_within 6 = .ok (.iload_n 2, 1) := by decide +kernel
theorem dX6_within_7 : decode cX6_within 7 = .ok (.if_icmp .gt 7, 3) := by decide +kernel
theorem dX6_within_10 : decode cX6_within 10 = .ok (.iconst 1, 1) := by decide +kernel
theorem dX6_within_11 : decode cX6_within 11 = .ok (.goto 4, 3) := by decide +kernel
theorem dX6_within_14 : decode cX6_within 14 = .ok (.iconst 0, 1) := by decide +kernel
theorem dX6_within_15 : decode cX6_within 15 = .ok (.ireturn, 1) := by decide +kernel
theorem dX6_record_0 : decode cX6_record 0 = .ok (.aload_n 0, 1) := by decide +kernel
theorem dX6_record_1 : decode cX6_record 1 = .ok (.getfield 34, 3) := by decide +kernel
theorem dX6_record_4 : decode cX6_record 4 = .ok (.iconst 4, 1) := by decide +kernel
theorem dX6_record_5 : decode cX6_record 5 = .ok (.if_icmp .ne 44, 3) := by decide +kernel
theorem dX6_record_8 : decode cX6_record 8 = .ok (.iconst 0, 1) := by decide +kernel
theorem dX6_record_9 : decode cX6_record 9 = .ok (.istore_n 1, 1) := by decide +kernel
theorem dX6_record_10 : decode cX6_record 10 = .ok (.iload_n 1, 1) := by decide +kernel
theorem dX6_record_11 : decode cX6_record 11 = .ok (.sipush 1047, 3) := by decide +kernel
theorem dX6_record_14 : decode cX6_record 14 = .ok (.if_icmp .ge 25, 3) := by decide +kernel
theorem dX6_record_17 : decode cX6_record 17 = .ok (.aload_n 0, 1) := by decide +kernel
theorem dX6_record_18 : decode cX6_record 18 = .ok (.getfield 16, 3) := by decide +kernel
theorem dX6_record_21 : decode cX6_record 21 = .ok (.iload_n 1, 1) := by decide +kernel
theorem dX6_record_22 : decode cX6_record 22 = .ok (.aload_n 0, 1) := by decide +kernel
theorem dX6_record_23 : decode cX6_record 23 = .ok (.getfield 16, 3) := by decide +kernel
theorem dX6_record_26 : decode cX6_record 26 = .ok (.iload_n 1, 1) := by decide +kernel
theorem dX6_record_27 : decode cX6_record 27 = .ok (.sipush 349, 3) := by decide +kernel
theorem dX6_record_30 : decode cX6_record 30 = .ok (.iadd, 1) := by decide +kernel
theorem dX6_record_31 : decode cX6_record 31 = .ok (.iaload, 1) := by decide +kernel
theorem dX6_record_32 : decode cX6_record 32 = .ok (.iastore, 1) := by decide +kernel
theorem dX6_record_33 : decode cX6_record 33 = .ok (.iinc 1 1, 3) := by decide +kernel
theorem dX6_record_36 : decode cX6_record 36 = .ok (.goto (-26), 3) := by decide +kernel
theorem dX6_record_39 : decode cX6_record 39 = .ok (.aload_n 0, 1) := by decide +kernel
theorem dX6_record_40 : decode cX6_record 40 = .ok (.dup, 1) := by decide +kernel
theorem dX6_record_41 : decode cX6_record 41 = .ok (.getfield 34, 3) := by decide +kernel
theorem dX6_record_44 : decode cX6_record 44 = .ok (.iconst 1, 1) := by decide +kernel
theorem dX6_record_45 : decode cX6_record 45 = .ok (.isub, 1) := by decide +kernel
theorem dX6_record_46 : decode cX6_record 46 = .ok (.putfield 34, 3) := by decide +kernel
theorem dX6_record_49 : decode cX6_record 49 = .ok (.aload_n 0, 1) := by decide +kernel
theorem dX6_record_50 : decode cX6_record 50 = .ok (.getfield 7, 3) := by decide +kernel
theorem dX6_record_53 : decode cX6_record 53 = .ok (.iconst 0, 1) := by decide +kernel
theorem dX6_record_54 : decode cX6_record 54 = .ok (.aload_n 0, 1) := by decide +kernel
theorem dX6_record_55 : decode cX6_record 55 = .ok (.getfield 16, 3) := by decide +kernel
theorem dX6_record_58 : decode cX6_record 58 = .ok (.aload_n 0, 1) := by decide +kernel
theorem dX6_record_59 : decode cX6_record 59 = .ok (.getfield 34, 3) := by decide +kernel
theorem dX6_record_62 : decode cX6_record 62 = .ok (.sipush 349, 3) := by decide +kernel
theorem dX6_record_65 : decode cX6_record 65 = .ok (.imul, 1) := by decide +kernel
theorem dX6_record_66 : decode cX6_record 66 = .ok (.invokestatic 38, 3) := by decide +kernel
theorem dX6_record_69 : decode cX6_record 69 = .ok (.aload_n 0, 1) := by decide +kernel
theorem dX6_record_70 : decode cX6_record 70 = .ok (.dup, 1) := by decide +kernel
theorem dX6_record_71 : decode cX6_record 71 = .ok (.getfield 34, 3) := by decide +kernel
theorem dX6_record_74 : decode cX6_record 74 = .ok (.iconst 1, 1) := by decide +kernel
theorem dX6_record_75 : decode cX6_record 75 = .ok (.iadd, 1) := by decide +kernel
theorem dX6_record_76 : decode cX6_record 76 = .ok (.putfield 34, 3) := by decide +kernel
theorem dX6_record_79 : decode cX6_record 79 = .ok (.return_, 1) := by decide +kernel
theorem dX6_isOracle_0 : decode cX6_isOracle 0 = .ok (.iload_n 1, 1) := by decide +kernel
theorem dX6_isOracle_1 : decode cX6_isOracle 1 = .ok (.iconst 0, 1) := by decide +kernel
theorem dX6_isOracle_2 : decode cX6_isOracle 2 = .ok (.aload_n 0, 1) := by decide +kernel
theorem dX6_isOracle_3 : decode cX6_isOracle 3 = .ok (.getfield 7, 3) := by decide +kernel
theorem dX6_isOracle_6 : decode cX6_isOracle 6 = .ok (.bipush 7, 2) := by decide +kernel
theorem dX6_isOracle_8 : decode cX6_isOracle 8 = .ok (.iaload, 1) := by decide +kernel
theorem dX6_isOracle_9 : decode cX6_isOracle 9 = .ok (.iconst 1, 1) := by decide +kernel
theorem dX6_isOracle_10 : decode cX6_isOracle 10 = .ok (.isub, 1) := by decide +kernel
theorem dX6_isOracle_11 : decode cX6_isOracle 11 = .ok (.invokestatic 42, 3) := by decide +kernel
theorem dX6_isOracle_14 : decode cX6_isOracle 14 = .ok (.ireturn, 1) := by decide +kernel
theorem dX6_isAddress_0 : decode cX6_isAddress 0 = .ok (.iload_n 0, 1) := by decide +kernel
theorem dX6_isAddress_1 : decode cX6_isAddress 1 = .ok (.iconst 0, 1) := by decide +kernel
theorem dX6_isAddress_2 : decode cX6_isAddress 2 = .ok (.bipush 63, 2) := by decide +kernel
theorem dX6_isAddress_4 : decode cX6_isAddress 4 = .ok (.invokestatic 42, 3) := by decide +kernel
theorem dX6_isAddress_7 : decode cX6_isAddress 7 = .ok (.ireturn, 1) := by decide +kernel
theorem dX6_isTaken_0 : decode cX6_isTaken 0 = .ok (.iload_n 0, 1) := by decide +kernel
theorem dX6_isTaken_1 : decode cX6_isTaken 1 = .ok (.iconst 0, 1) := by decide +kernel
theorem dX6_isTaken_2 : decode cX6_isTaken 2 = .ok (.iconst 1, 1) := by decide +kernel
theorem dX6_isTaken_3 : decode cX6_isTaken 3 = .ok (.invokestatic 42, 3) := by decide +kernel
theorem dX6_isTaken_6 : decode cX6_isTaken 6 = .ok (.ireturn, 1) := by decide +kernel
theorem dX6_part_0 : decode cX6_part 0 = .ok (.aload_n 0, 1) := by decide +kernel
theorem dX6_part_1 : decode cX6_part 1 = .ok (.getfield 7, 3) := by decide +kernel
theorem dX6_part_4 : decode cX6_part 4 = .ok (.bipush 73, 2) := by decide +kernel
theorem dX6_part_6 : decode cX6_part 6 = .ok (.bipush 42, 2) := by decide +kernel
theorem dX6_part_8 : decode cX6_part 8 = .ok (.iload_n 1, 1) := by decide +kernel
theorem dX6_part_9 : decode cX6_part 9 = .ok (.imul, 1) := by decide +kernel
theorem dX6_part_10 : decode cX6_part 10 = .ok (.iadd, 1) := by decide +kernel
theorem dX6_part_11 : decode cX6_part 11 = .ok (.iload_n 2, 1) := by decide +kernel
theorem dX6_part_12 : decode cX6_part 12 = .ok (.iadd, 1) := by decide +kernel
theorem dX6_part_13 : decode cX6_part 13 = .ok (.iaload, 1) := by decide +kernel
theorem dX6_part_14 : decode cX6_part 14 = .ok (.ireturn, 1) := by decide +kernel
theorem dX6_setPart_0 : decode cX6_setPart 0 = .ok (.aload_n 0, 1) := by decide +kernel
theorem dX6_setPart_1 : decode cX6_setPart 1 = .ok (.getfield 7, 3) := by decide +kernel
theorem dX6_setPart_4 : decode cX6_setPart 4 = .ok (.bipush 73, 2) := by decide +kernel
theorem dX6_setPart_6 : decode cX6_setPart 6 = .ok (.bipush 42, 2) := by decide +kernel
theorem dX6_setPart_8 : decode cX6_setPart 8 = .ok (.iload_n 1, 1) := by decide +kernel
theorem dX6_setPart_9 : decode cX6_setPart 9 = .ok (.imul, 1) := by decide +kernel
theorem dX6_setPart_10 : decode cX6_setPart 10 = .ok (.iadd, 1) := by decide +kernel
theorem dX6_setPart_11 : decode cX6_setPart 11 = .ok (.iload_n 2, 1) := by decide +kernel
theorem dX6_setPart_12 : decode cX6_setPart 12 = .ok (.iadd, 1) := by decide +kernel
theorem dX6_setPart_13 : decode cX6_setPart 13 = .ok (.iload_n 3, 1) := by decide +kernel
theorem dX6_setPart_14 : decode cX6_setPart 14 = .ok (.iastore, 1) := by decide +kernel
theorem dX6_setPart_15 : decode cX6_setPart 15 = .ok (.return_, 1) := by decide +kernel
theorem dX6_addPart_0 : decode cX6_addPart 0 = .ok (.aload_n 0, 1) := by decide +kernel
theorem dX6_addPart_1 : decode cX6_addPart 1 = .ok (.getfield 7, 3) := by decide +kernel
theorem dX6_addPart_4 : decode cX6_addPart 4 = .ok (.bipush 73, 2) := by decide +kernel
theorem dX6_addPart_6 : decode cX6_addPart 6 = .ok (.bipush 42, 2) := by decide +kernel
theorem dX6_addPart_8 : decode cX6_addPart 8 = .ok (.iload_n 1, 1) := by decide +kernel
theorem dX6_addPart_9 : decode cX6_addPart 9 = .ok (.imul, 1) := by decide +kernel
theorem dX6_addPart_10 : decode cX6_addPart 10 = .ok (.iadd, 1) := by decide +kernel
theorem dX6_addPart_11 : decode cX6_addPart 11 = .ok (.iload_n 2, 1) := by decide +kernel
theorem dX6_addPart_12 : decode cX6_addPart 12 = .ok (.iadd, 1) := by decide +kernel
theorem dX6_addPart_13 : decode cX6_addPart 13 = .ok (.dup2, 1) := by decide +kernel
theorem dX6_addPart_14 : decode cX6_addPart 14 = .ok (.iaload, 1) := by decide +kernel
theorem dX6_addPart_15 : decode cX6_addPart 15 = .ok (.iload_n 3, 1) := by decide +kernel
theorem dX6_addPart_16 : decode cX6_addPart 16 = .ok (.iadd, 1) := by decide +kernel
theorem dX6_addPart_17 : decode cX6_addPart 17 = .ok (.iastore, 1) := by decide +kernel
theorem dX6_addPart_18 : decode cX6_addPart 18 = .ok (.return_, 1) := by decide +kernel
theorem dX6_loanPart_0 : decode cX6_loanPart 0 = .ok (.aload_n 0, 1) := by decide +kernel
theorem dX6_loanPart_1 : decode cX6_loanPart 1 = .ok (.getfield 7, 3) := by decide +kernel
theorem dX6_loanPart_4 : decode cX6_loanPart 4 = .ok (.sipush 325, 3) := by decide +kernel
theorem dX6_loanPart_7 : decode cX6_loanPart 7 = .ok (.iconst 3, 1) := by decide +kernel
theorem dX6_loanPart_8 : decode cX6_loanPart 8 = .ok (.iload_n 1, 1) := by decide +kernel
theorem dX6_loanPart_9 : decode cX6_loanPart 9 = .ok (.imul, 1) := by decide +kernel
theorem dX6_loanPart_10 : decode cX6_loanPart 10 = .ok (.iadd, 1) := by decide +kernel
theorem dX6_loanPart_11 : decode cX6_loanPart 11 = .ok (.iload_n 2, 1) := by decide +kernel
theorem dX6_loanPart_12 : decode cX6_loanPart 12 = .ok (.iadd, 1) := by decide +kernel
theorem dX6_loanPart_13 : decode cX6_loanPart 13 = .ok (.iaload, 1) := by decide +kernel
theorem dX6_loanPart_14 : decode cX6_loanPart 14 = .ok (.ireturn, 1) := by decide +kernel
theorem dX6_hasTable_0 : decode cX6_hasTable 0 = .ok (.aload_n 0, 1) := by decide +kernel
theorem dX6_hasTable_1 : decode cX6_hasTable 1 = .ok (.iload_n 1, 1) := by decide +kernel
theorem dX6_hasTable_2 : decode cX6_hasTable 2 = .ok (.iconst 0, 1) := by decide +kernel
theorem dX6_hasTable_3 : decode cX6_hasTable 3 = .ok (.invokevirtual 46, 3) := by decide +kernel
theorem dX6_hasTable_6 : decode cX6_hasTable 6 = .ok (.iconst 1, 1) := by decide +kernel
theorem dX6_hasTable_7 : decode cX6_hasTable 7 = .ok (.iconst 3, 1) := by decide +kernel
theorem dX6_hasTable_8 : decode cX6_hasTable 8 = .ok (.invokestatic 42, 3) := by decide +kernel
theorem dX6_hasTable_11 : decode cX6_hasTable 11 = .ok (.ireturn, 1) := by decide +kernel
theorem dX6_sizeOf_0 : decode cX6_sizeOf 0 = .ok (.aload_n 0, 1) := by decide +kernel
theorem dX6_sizeOf_1 : decode cX6_sizeOf 1 = .ok (.iload_n 1, 1) := by decide +kernel
theorem dX6_sizeOf_2 : decode cX6_sizeOf 2 = .ok (.invokevirtual 50, 3) := by decide +kernel
theorem dX6_sizeOf_5 : decode cX6_sizeOf 5 = .ok (.ifCond .eq 14, 3) := by decide +kernel
theorem dX6_sizeOf_8 : decode cX6_sizeOf 8 = .ok (.iconst 1, 1) := by decide +kernel
theorem dX6_sizeOf_9 : decode cX6_sizeOf 9 = .ok (.aload_n 0, 1) := by decide +kernel
theorem dX6_sizeOf_10 : decode cX6_sizeOf 10 = .ok (.iload_n 1, 1) := by decide +kernel
theorem dX6_sizeOf_11 : decode cX6_sizeOf 11 = .ok (.iconst 1, 1) := by decide +kernel
theorem dX6_sizeOf_12 : decode cX6_sizeOf 12 = .ok (.invokevirtual 46, 3) := by decide +kernel
theorem dX6_sizeOf_15 : decode cX6_sizeOf 15 = .ok (.ishl, 1) := by decide +kernel
theorem dX6_sizeOf_16 : decode cX6_sizeOf 16 = .ok (.goto 4, 3) := by decide +kernel
theorem dX6_sizeOf_19 : decode cX6_sizeOf 19 = .ok (.iconst 0, 1) := by decide +kernel
theorem dX6_sizeOf_20 : decode cX6_sizeOf 20 = .ok (.ireturn, 1) := by decide +kernel
theorem dX6_indexOf_0 : decode cX6_indexOf 0 = .ok (.aload_n 0, 1) := by decide +kernel
theorem dX6_indexOf_1 : decode cX6_indexOf 1 = .ok (.iload_n 1, 1) := by decide +kernel
theorem dX6_indexOf_2 : decode cX6_indexOf 2 = .ok (.iconst 0, 1) := by decide +kernel
theorem dX6_indexOf_3 : decode cX6_indexOf 3 = .ok (.invokevirtual 46, 3) := by decide +kernel
theorem dX6_indexOf_6 : decode cX6_indexOf 6 = .ok (.istore_n 3, 1) := by decide +kernel
theorem dX6_indexOf_7 : decode cX6_indexOf 7 = .ok (.iload_n 3, 1) := by decide +kernel
theorem dX6_indexOf_8 : decode cX6_indexOf 8 = .ok (.iconst 1, 1) := by decide +kernel
theorem dX6_indexOf_9 : decode cX6_indexOf 9 = .ok (.if_icmp .ne 7, 3) := by decide +kernel
theorem dX6_indexOf_12 : decode cX6_indexOf 12 = .ok (.iload_n 2, 1) := by decide +kernel
theorem dX6_indexOf_13 : decode cX6_indexOf 13 = .ok (.goto 25, 3) := by decide +kernel
theorem dX6_indexOf_16 : decode cX6_indexOf 16 = .ok (.iload_n 3, 1) := by decide +kernel
theorem dX6_indexOf_17 : decode cX6_indexOf 17 = .ok (.iconst 2, 1) := by decide +kernel
theorem dX6_indexOf_18 : decode cX6_indexOf 18 = .ok (.if_icmp .ne 12, 3) := by decide +kernel
theorem dX6_indexOf_21 : decode cX6_indexOf 21 = .ok (.aload_n 0, 1) := by decide +kernel
theorem dX6_indexOf_22 : decode cX6_indexOf 22 = .ok (.getfield 7, 3) := by decide +kernel
theorem dX6_indexOf_25 : decode cX6_indexOf 25 = .ok (.iconst 3, 1) := by decide +kernel
theorem dX6_indexOf_26 : decode cX6_indexOf 26 = .ok (.iaload, 1) := by decide +kernel
theorem dX6_indexOf_27 : decode cX6_indexOf 27 = .ok (.goto 11, 3) := by decide +kernel
theorem dX6_indexOf_30 : decode cX6_indexOf 30 = .ok (.iload_n 2, 1) := by decide +kernel
theorem dX6_indexOf_31 : decode cX6_indexOf 31 = .ok (.aload_n 0, 1) := by decide +kernel
theorem dX6_indexOf_32 : decode cX6_indexOf 32 = .ok (.getfield 7, 3) := by decide +kernel
theorem dX6_indexOf_35 : decode cX6_indexOf 35 = .ok (.iconst 3, 1) := by decide +kernel
theorem dX6_indexOf_36 : decode cX6_indexOf 36 = .ok (.iaload, 1) := by decide +kernel
theorem dX6_indexOf_37 : decode cX6_indexOf 37 = .ok (.ixor, 1) := by decide +kernel
theorem dX6_indexOf_38 : decode cX6_indexOf 38 = .ok (.istore 4, 2) := by decide +kernel
theorem dX6_indexOf_40 : decode cX6_indexOf 40 = .ok (.iload 4, 2) := by decide +kernel
theorem dX6_indexOf_42 : decode cX6_indexOf 42 = .ok (.aload_n 0, 1) := by decide +kernel
theorem dX6_indexOf_43 : decode cX6_indexOf 43 = .ok (.iload_n 1, 1) := by decide +kernel
theorem dX6_indexOf_44 : decode cX6_indexOf 44 = .ok (.invokevirtual 54, 3) := by decide +kernel
theorem dX6_indexOf_47 : decode cX6_indexOf 47 = .ok (.irem, 1) := by decide +kernel
theorem dX6_indexOf_48 : decode cX6_indexOf 48 = .ok (.ireturn, 1) := by decide +kernel
theorem dX6_counterOf_0 : decode cX6_counterOf 0 = .ok (.aload_n 0, 1) := by decide +kernel
theorem dX6_counterOf_1 : decode cX6_counterOf 1 = .ok (.iload_n 1, 1) := by decide +kernel
theorem dX6_counterOf_2 : decode cX6_counterOf 2 = .ok (.bipush 10, 2) := by decide +kernel
theorem dX6_counterOf_4 : decode cX6_counterOf 4 = .ok (.aload_n 0, 1) := by decide +kernel
theorem dX6_counterOf_5 : decode cX6_counterOf 5 = .ok (.iload_n 1, 1) := by decide +kernel
theorem dX6_counterOf_6 : decode cX6_counterOf 6 = .ok (.iload_n 2, 1) := by decide +kernel
theorem dX6_counterOf_7 : decode cX6_counterOf 7 = .ok (.invokevirtual 58, 3) := by decide +kernel
theorem dX6_counterOf_10 : decode cX6_counterOf 10 = .ok (.iadd, 1) := by decide +kernel
theorem dX6_counterOf_11 : decode cX6_counterOf 11 = .ok (.invokevirtual 46, 3) := by decide +kernel
theorem dX6_counterOf_14 : decode cX6_counterOf 14 = .ok (.ireturn, 1) := by decide +kernel
theorem dX6_hasSeat_0 : decode cX6_hasSeat 0 = .ok (.aload_n 0, 1) := by decide +kernel
theorem dX6_hasSeat_1 : decode cX6_hasSeat 1 = .ok (.iload_n 1, 1) := by decide +kernel
theorem dX6_hasSeat_2 : decode cX6_hasSeat 2 = .ok (.iconst 3, 1) := by decide +kernel
theorem dX6_hasSeat_3 : decode cX6_hasSeat 3 = .ok (.invokevirtual 46, 3) := by decide +kernel
theorem dX6_hasSeat_6 : decode cX6_hasSeat 6 = .ok (.iconst (-1), 1) := by decide +kernel
theorem dX6_hasSeat_7 : decode cX6_hasSeat 7 = .ok (.if_icmp .eq 7, 3) := by decide +kernel
theorem dX6_hasSeat_10 : decode cX6_hasSeat 10 = .ok (.iconst 1, 1) := by decide +kernel
theorem dX6_hasSeat_11 : decode cX6_hasSeat 11 = .ok (.goto 4, 3) := by decide +kernel
theorem dX6_hasSeat_14 : decode cX6_hasSeat 14 = .ok (.iconst 0, 1) := by decide +kernel
theorem dX6_hasSeat_15 : decode cX6_hasSeat 15 = .ok (.ireturn, 1) := by decide +kernel
theorem dX6_isIn_0 : decode cX6_isIn 0 = .ok (.aload_n 0, 1) := by decide +kernel
theorem dX6_isIn_1 : decode cX6_isIn 1 = .ok (.iload_n 1, 1) := by decide +kernel
theorem dX6_isIn_2 : decode cX6_isIn 2 = .ok (.invokevirtual 61, 3) := by decide +kernel
theorem dX6_isIn_5 : decode cX6_isIn 5 = .ok (.ifCond .eq 16, 3) := by decide +kernel
theorem dX6_isIn_8 : decode cX6_isIn 8 = .ok (.aload_n 0, 1) := by decide +kernel
theorem dX6_isIn_9 : decode cX6_isIn 9 = .ok (.iload_n 1, 1) := by decide +kernel
theorem dX6_isIn_10 : decode cX6_isIn 10 = .ok (.iconst 2, 1) := by decide +kernel
theorem dX6_isIn_11 : decode cX6_isIn 11 = .ok (.invokevirtual 46, 3) := by decide +kernel
theorem dX6_isIn_14 : decode cX6_isIn 14 = .ok (.ifCond .le 7, 3) := by decide +kernel
theorem dX6_isIn_17 : decode cX6_isIn 17 = .ok (.iconst 1, 1) := by decide +kernel
theorem dX6_isIn_18 : decode cX6_isIn 18 = .ok (.goto 4, 3) := by decide +kernel
theorem dX6_isIn_21 : decode cX6_isIn 21 = .ok (.iconst 0, 1) := by decide +kernel
theorem dX6_isIn_22 : decode cX6_isIn 22 = .ok (.ireturn, 1) := by decide +kernel
theorem dX6_plainWord_0 : decode cX6_plainWord 0 = .ok (.aload_n 0, 1) := by decide +kernel
theorem dX6_plainWord_1 : decode cX6_plainWord 1 = .ok (.iload_n 1, 1) := by decide +kernel
theorem dX6_plainWord_2 : decode cX6_plainWord 2 = .ok (.iconst 0, 1) := by decide +kernel
theorem dX6_plainWord_3 : decode cX6_plainWord 3 = .ok (.invokevirtual 46, 3) := by decide +kernel
theorem dX6_plainWord_6 : decode cX6_plainWord 6 = .ok (.ifCond .ne 12, 3) := by decide +kernel
theorem dX6_plainWord_9 : decode cX6_plainWord 9 = .ok (.aload_n 0, 1) := by decide +kernel
theorem dX6_plainWord_10 : decode cX6_plainWord 10 = .ok (.iload_n 1, 1) := by decide +kernel
theorem dX6_plainWord_11 : decode cX6_plainWord 11 = .ok (.iconst 1, 1) := by decide +kernel
theorem dX6_plainWord_12 : decode cX6_plainWord 12 = .ok (.invokevirtual 46, 3) := by decide +kernel
theorem dX6_plainWord_15 : decode cX6_plainWord 15 = .ok (.goto 18, 3) := by decide +kernel
theorem dX6_plainWord_18 : decode cX6_plainWord 18 = .ok (.aload_n 0, 1) := by decide +kernel
theorem dX6_plainWord_19 : decode cX6_plainWord 19 = .ok (.iload_n 1, 1) := by decide +kernel
theorem dX6_plainWord_20 : decode cX6_plainWord 20 = .ok (.iload_n 2, 1) := by decide +kernel
theorem dX6_plainWord_21 : decode cX6_plainWord 21 = .ok (.invokevirtual 64, 3) := by decide +kernel
theorem dX6_plainWord_24 : decode cX6_plainWord 24 = .ok (.iconst 2, 1) := by decide +kernel
theorem dX6_plainWord_25 : decode cX6_plainWord 25 = .ok (.if_icmp .lt 7, 3) := by decide +kernel
theorem dX6_plainWord_28 : decode cX6_plainWord 28 = .ok (.iconst 1, 1) := by decide +kernel
theorem dX6_plainWord_29 : decode cX6_plainWord 29 = .ok (.goto 4, 3) := by decide +kernel
theorem dX6_plainWord_32 : decode cX6_plainWord 32 = .ok (.iconst 0, 1) := by decide +kernel
theorem dX6_plainWord_33 : decode cX6_plainWord 33 = .ok (.ireturn, 1) := by decide +kernel
theorem dX6_wordOf_0 : decode cX6_wordOf 0 = .ok (.aload_n 0, 1) := by decide +kernel
theorem dX6_wordOf_1 : decode cX6_wordOf 1 = .ok (.iload_n 1, 1) := by decide +kernel
theorem dX6_wordOf_2 : decode cX6_wordOf 2 = .ok (.iconst 0, 1) := by decide +kernel
theorem dX6_wordOf_3 : decode cX6_wordOf 3 = .ok (.invokevirtual 46, 3) := by decide +kernel
theorem dX6_wordOf_6 : decode cX6_wordOf 6 = .ok (.iconst 4, 1) := by decide +kernel
theorem dX6_wordOf_7 : decode cX6_wordOf 7 = .ok (.if_icmp .eq 10, 3) := by decide +kernel
theorem dX6_wordOf_10 : decode cX6_wordOf 10 = .ok (.aload_n 0, 1) := by decide +kernel
theorem dX6_wordOf_11 : decode cX6_wordOf 11 = .ok (.iload_n 1, 1) := by decide +kernel
theorem dX6_wordOf_12 : decode cX6_wordOf 12 = .ok (.iload_n 2, 1) := by decide +kernel
theorem dX6_wordOf_13 : decode cX6_wordOf 13 = .ok (.invokevirtual 67, 3) := by decide +kernel
theorem dX6_wordOf_16 : decode cX6_wordOf 16 = .ok (.ireturn, 1) := by decide +kernel
theorem dX6_wordOf_17 : decode cX6_wordOf 17 = .ok (.iconst 0, 1) := by decide +kernel
theorem dX6_wordOf_18 : decode cX6_wordOf 18 = .ok (.istore_n 3, 1) := by decide +kernel
theorem dX6_wordOf_19 : decode cX6_wordOf 19 = .ok (.iconst 0, 1) := by decide +kernel
theorem dX6_wordOf_20 : decode cX6_wordOf 20 = .ok (.istore 4, 2) := by decide +kernel
theorem dX6_wordOf_22 : decode cX6_wordOf 22 = .ok (.iload 4, 2) := by decide +kernel
theorem dX6_wordOf_24 : decode cX6_wordOf 24 = .ok (.aload_n 0, 1) := by decide +kernel
theorem dX6_wordOf_25 : decode cX6_wordOf 25 = .ok (.getfield 7, 3) := by decide +kernel
theorem dX6_wordOf_28 : decode cX6_wordOf 28 = .ok (.bipush 7, 2) := by decide +kernel
theorem dX6_wordOf_30 : decode cX6_wordOf 30 = .ok (.iaload, 1) := by decide +kernel
theorem dX6_wordOf_31 : decode cX6_wordOf 31 = .ok (.if_icmp .ge 61, 3) := by decide +kernel
theorem dX6_wordOf_34 : decode cX6_wordOf 34 = .ok (.aload_n 0, 1) := by decide +kernel
theorem dX6_wordOf_35 : decode cX6_wordOf 35 = .ok (.iload 4, 2) := by decide +kernel
theorem dX6_wordOf_37 : decode cX6_wordOf 37 = .ok (.iconst 0, 1) := by decide +kernel
theorem dX6_wordOf_38 : decode cX6_wordOf 38 = .ok (.invokevirtual 46, 3) := by decide +kernel
theorem dX6_wordOf_41 : decode cX6_wordOf 41 = .ok (.iconst 4, 1) := by decide +kernel
theorem dX6_wordOf_42 : decode cX6_wordOf 42 = .ok (.if_icmp .eq 44, 3) := by decide +kernel
theorem dX6_wordOf_45 : decode cX6_wordOf 45 = .ok (.aload_n 0, 1) := by decide +kernel
theorem dX6_wordOf_46 : decode cX6_wordOf 46 = .ok (.iload 4, 2) := by decide +kernel
theorem dX6_wordOf_48 : decode cX6_wordOf 48 = .ok (.invokevirtual 70, 3) := by decide +kernel
theorem dX6_wordOf_51 : decode cX6_wordOf 51 = .ok (.ifCond .eq 35, 3) := by decide +kernel
theorem dX6_wordOf_54 : decode cX6_wordOf 54 = .ok (.iload_n 3, 1) := by decide +kernel
theorem dX6_wordOf_55 : decode cX6_wordOf 55 = .ok (.aload_n 0, 1) := by decide +kernel
theorem dX6_wordOf_56 : decode cX6_wordOf 56 = .ok (.iload 4, 2) := by decide +kernel
theorem dX6_wordOf_58 : decode cX6_wordOf 58 = .ok (.iload_n 2, 1) := by decide +kernel
theorem dX6_wordOf_59 : decode cX6_wordOf 59 = .ok (.invokevirtual 67, 3) := by decide +kernel
theorem dX6_wordOf_62 : decode cX6_wordOf 62 = .ok (.iconst 1, 1) := by decide +kernel
theorem dX6_wordOf_63 : decode cX6_wordOf 63 = .ok (.if_icmp .ne 13, 3) := by decide +kernel
theorem dX6_wordOf_66 : decode cX6_wordOf 66 = .ok (.aload_n 0, 1) := by decide +kernel
theorem dX6_wordOf_67 : decode cX6_wordOf 67 = .ok (.iload 4, 2) := by decide +kernel
theorem dX6_wordOf_69 : decode cX6_wordOf 69 = .ok (.iconst 2, 1) := by decide +kernel
theorem dX6_wordOf_70 : decode cX6_wordOf 70 = .ok (.invokevirtual 46, 3) := by decide +kernel
theorem dX6_wordOf_73 : decode cX6_wordOf 73 = .ok (.goto 11, 3) := by decide +kernel
theorem dX6_wordOf_76 : decode cX6_wordOf 76 = .ok (.aload_n 0, 1) := by decide +kernel
theorem dX6_wordOf_77 : decode cX6_wordOf 77 = .ok (.iload 4, 2) := by decide +kernel
theorem dX6_wordOf_79 : decode cX6_wordOf 79 = .ok (.iconst 2, 1) := by decide +kernel
theorem dX6_wordOf_80 : decode cX6_wordOf 80 = .ok (.invokevirtual 46, 3) := by decide +kernel
theorem dX6_wordOf_83 : decode cX6_wordOf 83 = .ok (.ineg, 1) := by decide +kernel
theorem dX6_wordOf_84 : decode cX6_wordOf 84 = .ok (.iadd, 1) := by decide +kernel
theorem dX6_wordOf_85 : decode cX6_wordOf 85 = .ok (.istore_n 3, 1) := by decide +kernel
theorem dX6_wordOf_86 : decode cX6_wordOf 86 = .ok (.iinc 4 1, 3) := by decide +kernel
theorem dX6_wordOf_89 : decode cX6_wordOf 89 = .ok (.goto (-67), 3) := by decide +kernel
theorem dX6_wordOf_92 : decode cX6_wordOf 92 = .ok (.iload_n 3, 1) := by decide +kernel
theorem dX6_wordOf_93 : decode cX6_wordOf 93 = .ok (.ifCond .ge 7, 3) := by decide +kernel
theorem dX6_wordOf_96 : decode cX6_wordOf 96 = .ok (.iconst 1, 1) := by decide +kernel
theorem dX6_wordOf_97 : decode cX6_wordOf 97 = .ok (.goto 4, 3) := by decide +kernel
theorem dX6_wordOf_100 : decode cX6_wordOf 100 = .ok (.iconst 0, 1) := by decide +kernel
theorem dX6_wordOf_101 : decode cX6_wordOf 101 = .ok (.ireturn, 1) := by decide +kernel
theorem dX6_stakeOf_0 : decode cX6_stakeOf 0 = .ok (.aload_n 0, 1) := by decide +kernel
theorem dX6_stakeOf_1 : decode cX6_stakeOf 1 = .ok (.iload_n 1, 1) := by decide +kernel
theorem dX6_stakeOf_2 : decode cX6_stakeOf 2 = .ok (.invokevirtual 70, 3) := by decide +kernel
theorem dX6_stakeOf_5 : decode cX6_stakeOf 5 = .ok (.ifCond .ne 5, 3) := by decide +kernel
theorem dX6_stakeOf_8 : decode cX6_stakeOf 8 = .ok (.iconst 0, 1) := by decide +kernel
theorem dX6_stakeOf_9 : decode cX6_stakeOf 9 = .ok (.ireturn, 1) := by decide +kernel
theorem dX6_stakeOf_10 : decode cX6_stakeOf 10 = .ok (.aload_n 0, 1) := by decide +kernel
theorem dX6_stakeOf_11 : decode cX6_stakeOf 11 = .ok (.iload_n 1, 1) := by decide +kernel
theorem dX6_stakeOf_12 : decode cX6_stakeOf 12 = .ok (.invokevirtual 50, 3) := by decide +kernel
theorem dX6_stakeOf_15 : decode cX6_stakeOf 15 = .ok (.ifCond .eq 18, 3) := by decide +kernel
theorem dX6_stakeOf_18 : decode cX6_stakeOf 18 = .ok (.aload_n 0, 1) := by decide +kernel
theorem dX6_stakeOf_19 : decode cX6_stakeOf 19 = .ok (.iload_n 1, 1) := by decide +kernel
theorem dX6_stakeOf_20 : decode cX6_stakeOf 20 = .ok (.iload_n 2, 1) := by decide +kernel
theorem dX6_stakeOf_21 : decode cX6_stakeOf 21 = .ok (.invokevirtual 64, 3) := by decide +kernel
theorem dX6_stakeOf_24 : decode cX6_stakeOf 24 = .ok (.iconst 3, 1) := by decide +kernel
theorem dX6_stakeOf_25 : decode cX6_stakeOf 25 = .ok (.irem, 1) := by decide +kernel
theorem dX6_stakeOf_26 : decode cX6_stakeOf 26 = .ok (.ifCond .ne 7, 3) := by decide +kernel
theorem dX6_stakeOf_29 : decode cX6_stakeOf 29 = .ok (.iconst 1, 1) := by decide +kernel
theorem dX6_stakeOf_30 : decode cX6_stakeOf 30 = .ok (.goto 4, 3) := by decide +kernel
theorem dX6_stakeOf_33 : decode cX6_stakeOf 33 = .ok (.iconst 0, 1) := by decide +kernel
theorem dX6_stakeOf_34 : decode cX6_stakeOf 34 = .ok (.istore_n 3, 1) := by decide +kernel
theorem dX6_stakeOf_35 : decode cX6_stakeOf 35 = .ok (.iload_n 3, 1) := by decide +kernel
theorem dX6_stakeOf_36 : decode cX6_stakeOf 36 = .ok (.ifCond .eq 14, 3) := by decide +kernel
theorem dX6_stakeOf_39 : decode cX6_stakeOf 39 = .ok (.iconst 2, 1) := by decide +kernel
theorem dX6_stakeOf_40 : decode cX6_stakeOf 40 = .ok (.aload_n 0, 1) := by decide +kernel
theorem dX6_stakeOf_41 : decode cX6_stakeOf 41 = .ok (.getfield 7, 3) := by decide +kernel
theorem dX6_stakeOf_44 : decode cX6_stakeOf 44 = .ok (.iconst 0, 1) := by decide +kernel
theorem dX6_stakeOf_45 : decode cX6_stakeOf 45 = .ok (.iaload, 1) := by decide +kernel
theorem dX6_stakeOf_46 : decode cX6_stakeOf 46 = .ok (.imul, 1) := by decide +kernel
theorem dX6_stakeOf_47 : decode cX6_stakeOf 47 = .ok (.goto 9, 3) := by decide +kernel
theorem dX6_stakeOf_50 : decode cX6_stakeOf 50 = .ok (.aload_n 0, 1) := by decide +kernel
theorem dX6_stakeOf_51 : decode cX6_stakeOf 51 = .ok (.getfield 7, 3) := by decide +kernel
theorem dX6_stakeOf_54 : decode cX6_stakeOf 54 = .ok (.iconst 0, 1) := by decide +kernel
theorem dX6_stakeOf_55 : decode cX6_stakeOf 55 = .ok (.iaload, 1) := by decide +kernel
theorem dX6_stakeOf_56 : decode cX6_stakeOf 56 = .ok (.istore 4, 2) := by decide +kernel
theorem dX6_stakeOf_58 : decode cX6_stakeOf 58 = .ok (.iload 4, 2) := by decide +kernel
theorem dX6_stakeOf_60 : decode cX6_stakeOf 60 = .ok (.aload_n 0, 1) := by decide +kernel
theorem dX6_stakeOf_61 : decode cX6_stakeOf 61 = .ok (.iload_n 1, 1) := by decide +kernel
theorem dX6_stakeOf_62 : decode cX6_stakeOf 62 = .ok (.iconst 2, 1) := by decide +kernel
theorem dX6_stakeOf_63 : decode cX6_stakeOf 63 = .ok (.invokevirtual 46, 3) := by decide +kernel
theorem dX6_stakeOf_66 : decode cX6_stakeOf 66 = .ok (.if_icmp .ge 8, 3) := by decide +kernel
theorem dX6_stakeOf_69 : decode cX6_stakeOf 69 = .ok (.iload 4, 2) := by decide +kernel
theorem dX6_stakeOf_71 : decode cX6_stakeOf 71 = .ok (.goto 9, 3) := by decide +kernel
theorem dX6_stakeOf_74 : decode cX6_stakeOf 74 = .ok (.aload_n 0, 1) := by decide +kernel
theorem dX6_stakeOf_75 : decode cX6_stakeOf 75 = .ok (.iload_n 1, 1) := by decide +kernel
theorem dX6_stakeOf_76 : decode cX6_stakeOf 76 = .ok (.iconst 2, 1) := by decide +kernel
theorem dX6_stakeOf_77 : decode cX6_stakeOf 77 = .ok (.invokevirtual 46, 3) := by decide +kernel
theorem dX6_stakeOf_80 : decode cX6_stakeOf 80 = .ok (.ireturn, 1) := by decide +kernel
theorem dX6_isSetting_0 : decode cX6_isSetting 0 = .ok (.iload_n 0, 1) := by decide +kernel
theorem dX6_isSetting_1 : decode cX6_isSetting 1 = .ok (.ifCond .ne 13, 3) := by decide +kernel
theorem dX6_isSetting_4 : decode cX6_isSetting 4 = .ok (.iload_n 1, 1) := by decide +kernel
theorem dX6_isSetting_5 : decode cX6_isSetting 5 = .ok (.iconst 1, 1) := by decide +kernel
theorem dX6_isSetting_6 : decode cX6_isSetting 6 = .ok (.bipush 50, 2) := by decide +kernel
theorem dX6_isSetting_8 : decode cX6_isSetting 8 = .ok (.invokestatic 42, 3) := by decide +kernel
theorem dX6_isSetting_11 : decode cX6_isSetting 11 = .ok (.goto 38, 3) := by decide +kernel
theorem dX6_isSetting_14 : decode cX6_isSetting 14 = .ok (.iload_n 0, 1) := by decide +kernel
theorem dX6_isSetting_15 : decode cX6_isSetting 15 = .ok (.iconst 1, 1) := by decide +kernel
theorem dX6_isSetting_16 : decode cX6_isSetting 16 = .ok (.if_icmp .ne 13, 3) := by decide +kernel
theorem dX6_isSetting_19 : decode cX6_isSetting 19 = .ok (.iload_n 1, 1) := by decide +kernel
theorem dX6_isSetting_20 : decode cX6_isSetting 20 = .ok (.iconst 0, 1) := by decide +kernel
theorem dX6_isSetting_21 : decode cX6_isSetting 21 = .ok (.bipush 50, 2) := by decide +kernel
theorem dX6_isSetting_23 : decode cX6_isSetting 23 = .ok (.invokestatic 42, 3) := by decide +kernel
theorem dX6_isSetting_26 : decode cX6_isSetting 26 = .ok (.goto 23, 3) := by decide +kernel
theorem dX6_isSetting_29 : decode cX6_isSetting 29 = .ok (.iload_n 0, 1) := by decide +kernel
theorem dX6_isSetting_30 : decode cX6_isSetting 30 = .ok (.iconst 2, 1) := by decide +kernel
theorem dX6_isSetting_31 : decode cX6_isSetting 31 = .ok (.if_icmp .ne 17, 3) := by decide +kernel
theorem dX6_isSetting_34 : decode cX6_isSetting 34 = .ok (.iload_n 1, 1) := by decide +kernel
theorem dX6_isSetting_35 : decode cX6_isSetting 35 = .ok (.iconst 0, 1) := by decide +kernel
theorem dX6_isSetting_36 : decode cX6_isSetting 36 = .ok (.bipush 100, 2) := by decide +kernel
theorem dX6_isSetting_38 : decode cX6_isSetting 38 = .ok (.invokestatic 42, 3) := by decide +kernel
theorem dX6_isSetting_41 : decode cX6_isSetting 41 = .ok (.ifCond .eq 7, 3) := by decide +kernel
theorem dX6_isSetting_44 : decode cX6_isSetting 44 = .ok (.iconst 1, 1) := by decide +kernel
theorem dX6_isSetting_45 : decode cX6_isSetting 45 = .ok (.goto 4, 3) := by decide +kernel
theorem dX6_isSetting_48 : decode cX6_isSetting 48 = .ok (.iconst 0, 1) := by decide +kernel
theorem dX6_isSetting_49 : decode cX6_isSetting 49 = .ok (.ireturn, 1) := by decide +kernel
theorem dX6_set_0 : decode cX6_set 0 = .ok (.iload_n 1, 1) := by decide +kernel
theorem dX6_set_1 : decode cX6_set 1 = .ok (.iload_n 2, 1) := by decide +kernel
theorem dX6_set_2 : decode cX6_set 2 = .ok (.invokestatic 73, 3) := by decide +kernel
theorem dX6_set_5 : decode cX6_set 5 = .ok (.ifCond .ne 6, 3) := by decide +kernel
theorem dX6_set_8 : decode cX6_set 8 = .ok (.ldc 77, 2) := by decide +kernel
theorem dX6_set_10 : decode cX6_set 10 = .ok (.ireturn, 1) := by decide +kernel
theorem dX6_set_11 : decode cX6_set 11 = .ok (.aload_n 0, 1) := by decide +kernel
theorem dX6_set_12 : decode cX6_set 12 = .ok (.invokevirtual 78, 3) := by decide +kernel
theorem dX6_set_15 : decode cX6_set 15 = .ok (.aload_n 0, 1) := by decide +kernel
theorem dX6_set_16 : decode cX6_set 16 = .ok (.getfield 7, 3) := by decide +kernel
theorem dX6_set_19 : decode cX6_set 19 = .ok (.iconst 0, 1) := by decide +kernel
theorem dX6_set_20 : decode cX6_set 20 = .ok (.iload_n 1, 1) := by decide +kernel
theorem dX6_set_21 : decode cX6_set 21 = .ok (.iadd, 1) := by decide +kernel
theorem dX6_set_22 : decode cX6_set 22 = .ok (.iaload, 1) := by decide +kernel
theorem dX6_set_23 : decode cX6_set 23 = .ok (.istore_n 3, 1) := by decide +kernel
theorem dX6_set_24 : decode cX6_set 24 = .ok (.aload_n 0, 1) := by decide +kernel
theorem dX6_set_25 : decode cX6_set 25 = .ok (.getfield 7, 3) := by decide +kernel
theorem dX6_set_28 : decode cX6_set 28 = .ok (.iconst 0, 1) := by decide +kernel
theorem dX6_set_29 : decode cX6_set 29 = .ok (.iload_n 1, 1) := by decide +kernel
theorem dX6_set_30 : decode cX6_set 30 = .ok (.iadd, 1) := by decide +kernel
theorem dX6_set_31 : decode cX6_set 31 = .ok (.iload_n 2, 1) := by decide +kernel
theorem dX6_set_32 : decode cX6_set 32 = .ok (.iastore, 1) := by decide +kernel
theorem dX6_set_33 : decode cX6_set 33 = .ok (.iload_n 3, 1) := by decide +kernel
theorem dX6_set_34 : decode cX6_set 34 = .ok (.ireturn, 1) := by decide +kernel
theorem dX6_oracle_0 : decode cX6_oracle 0 = .ok (.iload_n 1, 1) := by decide +kernel
theorem dX6_oracle_1 : decode cX6_oracle 1 = .ok (.ifCond .ne 7, 3) := by decide +kernel
theorem dX6_oracle_4 : decode cX6_oracle 4 = .ok (.iconst 1, 1) := by decide +kernel
theorem dX6_oracle_5 : decode cX6_oracle 5 = .ok (.goto 13, 3) := by decide +kernel
theorem dX6_oracle_8 : decode cX6_oracle 8 = .ok (.iload_n 1, 1) := by decide +kernel
theorem dX6_oracle_9 : decode cX6_oracle 9 = .ok (.iconst 4, 1) := by decide +kernel
theorem dX6_oracle_10 : decode cX6_oracle 10 = .ok (.if_icmp .ne 7, 3) := by decide +kernel
theorem dX6_oracle_13 : decode cX6_oracle 13 = .ok (.iconst 0, 1) := by decide +kernel
theorem dX6_oracle_14 : decode cX6_oracle 14 = .ok (.goto 4, 3) := by decide +kernel
theorem dX6_oracle_17 : decode cX6_oracle 17 = .ok (.iconst 5, 1) := by decide +kernel
theorem dX6_oracle_18 : decode cX6_oracle 18 = .ok (.istore 4, 2) := by decide +kernel
theorem dX6_oracle_20 : decode cX6_oracle 20 = .ok (.iload_n 1, 1) := by decide +kernel
theorem dX6_oracle_21 : decode cX6_oracle 21 = .ok (.iconst 0, 1) := by decide +kernel
theorem dX6_oracle_22 : decode cX6_oracle 22 = .ok (.iconst 4, 1) := by decide +kernel
theorem dX6_oracle_23 : decode cX6_oracle 23 = .ok (.invokestatic 42, 3) := by decide +kernel
theorem dX6_oracle_26 : decode cX6_oracle 26 = .ok (.ifCond .eq 24, 3) := by decide +kernel
theorem dX6_oracle_29 : decode cX6_oracle 29 = .ok (.iload_n 2, 1) := by decide +kernel
theorem dX6_oracle_30 : decode cX6_oracle 30 = .ok (.iconst 0, 1) := by decide +kernel
theorem dX6_oracle_31 : decode cX6_oracle 31 = .ok (.iload 4, 2) := by decide +kernel
theorem dX6_oracle_33 : decode cX6_oracle 33 = .ok (.invokestatic 42, 3) := by decide +kernel
theorem dX6_oracle_36 : decode cX6_oracle 36 = .ok (.ifCond .eq 14, 3) := by decide +kernel
theorem dX6_oracle_39 : decode cX6_oracle 39 = .ok (.iload_n 3, 1) := by decide +kernel
theorem dX6_oracle_40 : decode cX6_oracle 40 = .ok (.iconst 0, 1) := by decide +kernel
theorem dX6_oracle_41 : decode cX6_oracle 41 = .ok (.sipush 9999, 3) := by decide +kernel
theorem dX6_oracle_44 : decode cX6_oracle 44 = .ok (.invokestatic 42, 3) := by decide +kernel
theorem dX6_oracle_47 : decode cX6_oracle 47 = .ok (.ifCond .ne 6, 3) := by decide +kernel
theorem dX6_oracle_50 : decode cX6_oracle 50 = .ok (.ldc 77, 2) := by decide +kernel
theorem dX6_oracle_52 : decode cX6_oracle 52 = .ok (.ireturn, 1) := by decide +kernel
theorem dX6_oracle_53 : decode cX6_oracle 53 = .ok (.aload_n 0, 1) := by decide +kernel
theorem dX6_oracle_54 : decode cX6_oracle 54 = .ok (.getfield 7, 3) := by decide +kernel
theorem dX6_oracle_57 : decode cX6_oracle 57 = .ok (.bipush 7, 2) := by decide +kernel
theorem dX6_oracle_59 : decode cX6_oracle 59 = .ok (.iaload, 1) := by decide +kernel
theorem dX6_oracle_60 : decode cX6_oracle 60 = .ok (.bipush 6, 2) := by decide +kernel
theorem dX6_oracle_62 : decode cX6_oracle 62 = .ok (.if_icmp .ne 6, 3) := by decide +kernel
theorem dX6_oracle_65 : decode cX6_oracle 65 = .ok (.ldc 81, 2) := by decide +kernel
theorem dX6_oracle_67 : decode cX6_oracle 67 = .ok (.ireturn, 1) := by decide +kernel
theorem dX6_oracle_68 : decode cX6_oracle 68 = .ok (.aload_n 0, 1) := by decide +kernel
theorem dX6_oracle_69 : decode cX6_oracle 69 = .ok (.invokevirtual 78, 3) := by decide +kernel
theorem dX6_oracle_72 : decode cX6_oracle 72 = .ok (.aload_n 0, 1) := by decide +kernel
theorem dX6_oracle_73 : decode cX6_oracle 73 = .ok (.getfield 7, 3) := by decide +kernel
theorem dX6_oracle_76 : decode cX6_oracle 76 = .ok (.bipush 7, 2) := by decide +kernel
theorem dX6_oracle_78 : decode cX6_oracle 78 = .ok (.iaload, 1) := by decide +kernel
theorem dX6_oracle_79 : decode cX6_oracle 79 = .ok (.istore 5, 2) := by decide +kernel
theorem dX6_oracle_81 : decode cX6_oracle 81 = .ok (.iconst 0, 1) := by decide +kernel
theorem dX6_oracle_82 : decode cX6_oracle 82 = .ok (.istore 6, 2) := by decide +kernel
theorem dX6_oracle_84 : decode cX6_oracle 84 = .ok (.iload 6, 2) := by decide +kernel
theorem dX6_oracle_86 : decode cX6_oracle 86 = .ok (.bipush 42, 2) := by decide +kernel
theorem dX6_oracle_88 : decode cX6_oracle 88 = .ok (.if_icmp .ge 29, 3) := by decide +kernel
theorem dX6_oracle_91 : decode cX6_oracle 91 = .ok (.aload_n 0, 1) := by decide +kernel
theorem dX6_oracle_92 : decode cX6_oracle 92 = .ok (.iload 5, 2) := by decide +kernel
theorem dX6_oracle_94 : decode cX6_oracle 94 = .ok (.iload 6, 2) := by decide +kernel
theorem dX6_oracle_96 : decode cX6_oracle 96 = .ok (.iload 6, 2) := by decide +kernel
theorem dX6_oracle_98 : decode cX6_oracle 98 = .ok (.bipush 10, 2) := by decide +kernel
theorem dX6_oracle_100 : decode cX6_oracle 100 = .ok (.if_icmp .lt 7, 3) := by decide +kernel
theorem dX6_oracle_103 : decode cX6_oracle 103 = .ok (.iconst 1, 1) := by decide +kernel
theorem dX6_oracle_104 : decode cX6_oracle 104 = .ok (.goto 4, 3) := by decide +kernel
theorem dX6_oracle_107 : decode cX6_oracle 107 = .ok (.iconst 0, 1) := by decide +kernel
theorem dX6_oracle_108 : decode cX6_oracle 108 = .ok (.invokevirtual 82, 3) := by decide +kernel
theorem dX6_oracle_111 : decode cX6_oracle 111 = .ok (.iinc 6 1, 3) := by decide +kernel
theorem dX6_oracle_114 : decode cX6_oracle 114 = .ok (.goto (-30), 3) := by decide +kernel
theorem dX6_oracle_117 : decode cX6_oracle 117 = .ok (.aload_n 0, 1) := by decide +kernel
theorem dX6_oracle_118 : decode cX6_oracle 118 = .ok (.iload 5, 2) := by decide +kernel
theorem dX6_oracle_120 : decode cX6_oracle 120 = .ok (.iconst 0, 1) := by decide +kernel
theorem dX6_oracle_121 : decode cX6_oracle 121 = .ok (.iload_n 1, 1) := by decide +kernel
theorem dX6_oracle_122 : decode cX6_oracle 122 = .ok (.invokevirtual 82, 3) := by decide +kernel
theorem dX6_oracle_125 : decode cX6_oracle 125 = .ok (.aload_n 0, 1) := by decide +kernel
theorem dX6_oracle_126 : decode cX6_oracle 126 = .ok (.iload 5, 2) := by decide +kernel
theorem dX6_oracle_128 : decode cX6_oracle 128 = .ok (.iconst 1, 1) := by decide +kernel
theorem dX6_oracle_129 : decode cX6_oracle 129 = .ok (.iload_n 2, 1) := by decide +kernel
theorem dX6_oracle_130 : decode cX6_oracle 130 = .ok (.invokevirtual 82, 3) := by decide +kernel
theorem dX6_oracle_133 : decode cX6_oracle 133 = .ok (.aload_n 0, 1) := by decide +kernel
theorem dX6_oracle_134 : decode cX6_oracle 134 = .ok (.iload 5, 2) := by decide +kernel
theorem dX6_oracle_136 : decode cX6_oracle 136 = .ok (.iconst 2, 1) := by decide +kernel
theorem dX6_oracle_137 : decode cX6_oracle 137 = .ok (.iload_n 3, 1) := by decide +kernel
theorem dX6_oracle_138 : decode cX6_oracle 138 = .ok (.invokevirtual 82, 3) := by decide +kernel
theorem dX6_oracle_141 : decode cX6_oracle 141 = .ok (.aload_n 0, 1) := by decide +kernel
theorem dX6_oracle_142 : decode cX6_oracle 142 = .ok (.iload 5, 2) := by decide +kernel
theorem dX6_oracle_144 : decode cX6_oracle 144 = .ok (.iconst 3, 1) := by decide +kernel
theorem dX6_oracle_145 : decode cX6_oracle 145 = .ok (.iconst (-1), 1) := by decide +kernel
theorem dX6_oracle_146 : decode cX6_oracle 146 = .ok (.invokevirtual 82, 3) := by decide +kernel
theorem dX6_oracle_149 : decode cX6_oracle 149 = .ok (.aload_n 0, 1) := by decide +kernel
theorem dX6_oracle_150 : decode cX6_oracle 150 = .ok (.getfield 7, 3) := by decide +kernel
theorem dX6_oracle_153 : decode cX6_oracle 153 = .ok (.bipush 7, 2) := by decide +kernel
theorem dX6_oracle_155 : decode cX6_oracle 155 = .ok (.dup2, 1) := by decide +kernel
theorem dX6_oracle_156 : decode cX6_oracle 156 = .ok (.iaload, 1) := by decide +kernel
theorem dX6_oracle_157 : decode cX6_oracle 157 = .ok (.iconst 1, 1) := by decide +kernel
theorem dX6_oracle_158 : decode cX6_oracle 158 = .ok (.iadd, 1) := by decide +kernel
theorem dX6_oracle_159 : decode cX6_oracle 159 = .ok (.iastore, 1) := by decide +kernel
theorem dX6_oracle_160 : decode cX6_oracle 160 = .ok (.iload 5, 2) := by decide +kernel
theorem dX6_oracle_162 : decode cX6_oracle 162 = .ok (.ireturn, 1) := by decide +kernel
theorem dX6_sitting_0 : decode cX6_sitting 0 = .ok (.iconst 0, 1) := by decide +kernel
theorem dX6_sitting_1 : decode cX6_sitting 1 = .ok (.istore_n 2, 1) := by decide +kernel
theorem dX6_sitting_2 : decode cX6_sitting 2 = .ok (.iconst 0, 1) := by decide +kernel
theorem dX6_sitting_3 : decode cX6_sitting 3 = .ok (.istore_n 3, 1) := by decide +kernel
theorem dX6_sitting_4 : decode cX6_sitting 4 = .ok (.iload_n 3, 1) := by decide +kernel
theorem dX6_sitting_5 : decode cX6_sitting 5 = .ok (.aload_n 0, 1) := by decide +kernel
theorem dX6_sitting_6 : decode cX6_sitting 6 = .ok (.getfield 7, 3) := by decide +kernel
theorem dX6_sitting_9 : decode cX6_sitting 9 = .ok (.bipush 7, 2) := by decide +kernel
theorem dX6_sitting_11 : decode cX6_sitting 11 = .ok (.iaload, 1) := by decide +kernel
theorem dX6_sitting_12 : decode cX6_sitting 12 = .ok (.if_icmp .ge 27, 3) := by decide +kernel
theorem dX6_sitting_15 : decode cX6_sitting 15 = .ok (.iload_n 2, 1) := by decide +kernel
theorem dX6_sitting_16 : decode cX6_sitting 16 = .ok (.aload_n 0, 1) := by decide +kernel
theorem dX6_sitting_17 : decode cX6_sitting 17 = .ok (.iload_n 3, 1) := by decide +kernel
theorem dX6_sitting_18 : decode cX6_sitting 18 = .ok (.iconst 3, 1) := by decide +kernel
theorem dX6_sitting_19 : decode cX6_sitting 19 = .ok (.invokevirtual 46, 3) := by decide +kernel
theorem dX6_sitting_22 : decode cX6_sitting 22 = .ok (.iload_n 1, 1) := by decide +kernel
theorem dX6_sitting_23 : decode cX6_sitting 23 = .ok (.if_icmp .ne 7, 3) := by decide +kernel
theorem dX6_sitting_26 : decode cX6_sitting 26 = .ok (.iconst 1, 1) := by decide +kernel
theorem dX6_sitting_27 : decode cX6_sitting 27 = .ok (.goto 4, 3) := by decide +kernel
theorem dX6_sitting_30 : decode cX6_sitting 30 = .ok (.iconst 0, 1) := by decide +kernel
theorem dX6_sitting_31 : decode cX6_sitting 31 = .ok (.iadd, 1) := by decide +kernel
theorem dX6_sitting_32 : decode cX6_sitting 32 = .ok (.istore_n 2, 1) := by decide +kernel
theorem dX6_sitting_33 : decode cX6_sitting 33 = .ok (.iinc 3 1, 3) := by decide +kernel
theorem dX6_sitting_36 : decode cX6_sitting 36 = .ok (.goto (-32), 3) := by decide +kernel
theorem dX6_sitting_39 : decode cX6_sitting 39 = .ok (.iload_n 2, 1) := by decide +kernel
theorem dX6_sitting_40 : decode cX6_sitting 40 = .ok (.ireturn, 1) := by decide +kernel
theorem dX6_seat_0 : decode cX6_seat 0 = .ok (.aload_n 0, 1) := by decide +kernel
theorem dX6_seat_1 : decode cX6_seat 1 = .ok (.iload_n 1, 1) := by decide +kernel
theorem dX6_seat_2 : decode cX6_seat 2 = .ok (.invokevirtual 86, 3) := by decide +kernel
theorem dX6_seat_5 : decode cX6_seat 5 = .ok (.ifCond .eq 12, 3) := by decide +kernel
theorem dX6_seat_8 : decode cX6_seat 8 = .ok (.iload_n 2, 1) := by decide +kernel
theorem dX6_seat_9 : decode cX6_seat 9 = .ok (.iconst 0, 1) := by decide +kernel
theorem dX6_seat_10 : decode cX6_seat 10 = .ok (.iconst 2, 1) := by decide +kernel
theorem dX6_seat_11 : decode cX6_seat 11 = .ok (.invokestatic 42, 3) := by decide +kernel
theorem dX6_seat_14 : decode cX6_seat 14 = .ok (.ifCond .ne 6, 3) := by decide +kernel
theorem dX6_seat_17 : decode cX6_seat 17 = .ok (.ldc 77, 2) := by decide +kernel
theorem dX6_seat_19 : decode cX6_seat 19 = .ok (.ireturn, 1) := by decide +kernel
theorem dX6_seat_20 : decode cX6_seat 20 = .ok (.iload_n 2, 1) := by decide +kernel
theorem dX6_seat_21 : decode cX6_seat 21 = .ok (.iconst 2, 1) := by decide +kernel
theorem dX6_seat_22 : decode cX6_seat 22 = .ok (.if_icmp .eq 27, 3) := by decide +kernel
theorem dX6_seat_25 : decode cX6_seat 25 = .ok (.iload_n 2, 1) := by decide +kernel
theorem dX6_seat_26 : decode cX6_seat 26 = .ok (.ifCond .ne 15, 3) := by decide +kernel
theorem dX6_seat_29 : decode cX6_seat 29 = .ok (.aload_n 0, 1) := by decide +kernel
theorem dX6_seat_30 : decode cX6_seat 30 = .ok (.iload_n 1, 1) := by decide +kernel
theorem dX6_seat_31 : decode cX6_seat 31 = .ok (.iconst 0, 1) := by decide +kernel
theorem dX6_seat_32 : decode cX6_seat 32 = .ok (.invokevirtual 46, 3) := by decide +kernel
theorem dX6_seat_35 : decode cX6_seat 35 = .ok (.ifCond .ne 18, 3) := by decide +kernel
theorem dX6_seat_38 : decode cX6_seat 38 = .ok (.goto 11, 3) := by decide +kernel
theorem dX6_seat_41 : decode cX6_seat 41 = .ok (.aload_n 0, 1) := by decide +kernel
theorem dX6_seat_42 : decode cX6_seat 42 = .ok (.iload_n 1, 1) := by decide +kernel
theorem dX6_seat_43 : decode cX6_seat 43 = .ok (.invokevirtual 50, 3) := by decide +kernel
theorem dX6_seat_46 : decode cX6_seat 46 = .ok (.ifCond .eq 7, 3) := by decide +kernel
theorem dX6_seat_49 : decode cX6_seat 49 = .ok (.iconst 1, 1) := by decide +kernel
theorem dX6_seat_50 : decode cX6_seat 50 = .ok (.goto 4, 3) := by decide +kernel
theorem dX6_seat_53 : decode cX6_seat 53 = .ok (.iconst 0, 1) := by decide +kernel
theorem dX6_seat_54 : decode cX6_seat 54 = .ok (.istore_n 3, 1) := by decide +kernel
theorem dX6_seat_55 : decode cX6_seat 55 = .ok (.aload_n 0, 1) := by decide +kernel
theorem dX6_seat_56 : decode cX6_seat 56 = .ok (.iload_n 1, 1) := by decide +kernel
theorem dX6_seat_57 : decode cX6_seat 57 = .ok (.invokevirtual 61, 3) := by decide +kernel
theorem dX6_seat_60 : decode cX6_seat 60 = .ok (.ifCond .ne 7, 3) := by decide +kernel
theorem dX6_seat_63 : decode cX6_seat 63 = .ok (.iload_n 3, 1) := by decide +kernel
theorem dX6_seat_64 : decode cX6_seat 64 = .ok (.ifCond .ne 6, 3) := by decide +kernel
theorem dX6_seat_67 : decode cX6_seat 67 = .ok (.ldc 89, 2) := by decide +kernel
theorem dX6_seat_69 : decode cX6_seat 69 = .ok (.ireturn, 1) := by decide +kernel
theorem dX6_seat_70 : decode cX6_seat 70 = .ok (.aload_n 0, 1) := by decide +kernel
theorem dX6_seat_71 : decode cX6_seat 71 = .ok (.iload_n 2, 1) := by decide +kernel
theorem dX6_seat_72 : decode cX6_seat 72 = .ok (.invokevirtual 90, 3) := by decide +kernel
theorem dX6_seat_75 : decode cX6_seat 75 = .ok (.iconst 2, 1) := by decide +kernel
theorem dX6_seat_76 : decode cX6_seat 76 = .ok (.if_icmp .ne 6, 3) := by decide +kernel
theorem dX6_seat_79 : decode cX6_seat 79 = .ok (.ldc 81, 2) := by decide +kernel
theorem dX6_seat_81 : decode cX6_seat 81 = .ok (.ireturn, 1) := by decide +kernel
theorem dX6_seat_82 : decode cX6_seat 82 = .ok (.aload_n 0, 1) := by decide +kernel
theorem dX6_seat_83 : decode cX6_seat 83 = .ok (.invokevirtual 78, 3) := by decide +kernel
theorem dX6_seat_86 : decode cX6_seat 86 = .ok (.iconst 0, 1) := by decide +kernel
theorem dX6_seat_87 : decode cX6_seat 87 = .ok (.istore 4, 2) := by decide +kernel
theorem dX6_seat_89 : decode cX6_seat 89 = .ok (.iconst 0, 1) := by decide +kernel
theorem dX6_seat_90 : decode cX6_seat 90 = .ok (.istore 5, 2) := by decide +kernel
theorem dX6_seat_92 : decode cX6_seat 92 = .ok (.iload 5, 2) := by decide +kernel
theorem dX6_seat_94 : decode cX6_seat 94 = .ok (.aload_n 0, 1) := by decide +kernel
theorem dX6_seat_95 : decode cX6_seat 95 = .ok (.getfield 7, 3) := by decide +kernel
theorem dX6_seat_98 : decode cX6_seat 98 = .ok (.bipush 7, 2) := by decide +kernel
theorem dX6_seat_100 : decode cX6_seat 100 = .ok (.iaload, 1) := by decide +kernel
theorem dX6_seat_101 : decode cX6_seat 101 = .ok (.if_icmp .ge 38, 3) := by decide +kernel
theorem dX6_seat_104 : decode cX6_seat 104 = .ok (.aload_n 0, 1) := by decide +kernel
theorem dX6_seat_105 : decode cX6_seat 105 = .ok (.iload 5, 2) := by decide +kernel
theorem dX6_seat_107 : decode cX6_seat 107 = .ok (.iconst 3, 1) := by decide +kernel
theorem dX6_seat_108 : decode cX6_seat 108 = .ok (.invokevirtual 46, 3) := by decide +kernel
theorem dX6_seat_111 : decode cX6_seat 111 = .ok (.iload_n 2, 1) := by decide +kernel
theorem dX6_seat_112 : decode cX6_seat 112 = .ok (.if_icmp .ne 17, 3) := by decide +kernel
theorem dX6_seat_115 : decode cX6_seat 115 = .ok (.aload_n 0, 1) := by decide +kernel
theorem dX6_seat_116 : decode cX6_seat 116 = .ok (.iload 5, 2) := by decide +kernel
theorem dX6_seat_118 : decode cX6_seat 118 = .ok (.iconst 4, 1) := by decide +kernel
theorem dX6_seat_119 : decode cX6_seat 119 = .ok (.invokevirtual 46, 3) := by decide +kernel
theorem dX6_seat_122 : decode cX6_seat 122 = .ok (.ifCond .ne 7, 3) := by decide +kernel
theorem dX6_seat_125 : decode cX6_seat 125 = .ok (.iconst 1, 1) := by decide +kernel
theorem dX6_seat_126 : decode cX6_seat 126 = .ok (.goto 5, 3) := by decide +kernel
theorem dX6_seat_129 : decode cX6_seat 129 = .ok (.iload 4, 2) := by decide +kernel
theorem dX6_seat_131 : decode cX6_seat 131 = .ok (.istore 4, 2) := by decide +kernel
theorem dX6_seat_133 : decode cX6_seat 133 = .ok (.iinc 5 1, 3) := by decide +kernel
theorem dX6_seat_136 : decode cX6_seat 136 = .ok (.goto (-44), 3) := by decide +kernel
theorem dX6_seat_139 : decode cX6_seat 139 = .ok (.aload_n 0, 1) := by decide +kernel
theorem dX6_seat_140 : decode cX6_seat 140 = .ok (.iload_n 1, 1) := by decide +kernel
theorem dX6_seat_141 : decode cX6_seat 141 = .ok (.iconst 3, 1) := by decide +kernel
theorem dX6_seat_142 : decode cX6_seat 142 = .ok (.iload_n 2, 1) := by decide +kernel
theorem dX6_seat_143 : decode cX6_seat 143 = .ok (.invokevirtual 82, 3) := by decide +kernel
theorem dX6_seat_146 : decode cX6_seat 146 = .ok (.aload_n 0, 1) := by decide +kernel
theorem dX6_seat_147 : decode cX6_seat 147 = .ok (.iload_n 1, 1) := by decide +kernel
theorem dX6_seat_148 : decode cX6_seat 148 = .ok (.iconst 4, 1) := by decide +kernel
theorem dX6_seat_149 : decode cX6_seat 149 = .ok (.iload 4, 2) := by decide +kernel
theorem dX6_seat_151 : decode cX6_seat 151 = .ok (.invokevirtual 82, 3) := by decide +kernel
theorem dX6_seat_154 : decode cX6_seat 154 = .ok (.aload_n 0, 1) := by decide +kernel
theorem dX6_seat_155 : decode cX6_seat 155 = .ok (.iload_n 2, 1) := by decide +kernel
theorem dX6_seat_156 : decode cX6_seat 156 = .ok (.invokevirtual 90, 3) := by decide +kernel
theorem dX6_seat_159 : decode cX6_seat 159 = .ok (.ireturn, 1) := by decide +kernel
theorem dX6_stand_0 : decode cX6_stand 0 = .ok (.aload_n 0, 1) := by decide +kernel
theorem dX6_stand_1 : decode cX6_stand 1 = .ok (.iload_n 1, 1) := by decide +kernel
theorem dX6_stand_2 : decode cX6_stand 2 = .ok (.invokevirtual 86, 3) := by decide +kernel
theorem dX6_stand_5 : decode cX6_stand 5 = .ok (.ifCond .ne 6, 3) := by decide +kernel
theorem dX6_stand_8 : decode cX6_stand 8 = .ok (.ldc 77, 2) := by decide +kernel
theorem dX6_stand_10 : decode cX6_stand 10 = .ok (.ireturn, 1) := by decide +kernel
theorem dX6_stand_11 : decode cX6_stand 11 = .ok (.aload_n 0, 1) := by decide +kernel
theorem dX6_stand_12 : decode cX6_stand 12 = .ok (.iload_n 1, 1) := by decide +kernel
theorem dX6_stand_13 : decode cX6_stand 13 = .ok (.invokevirtual 61, 3) := by decide +kernel
theorem dX6_stand_16 : decode cX6_stand 16 = .ok (.ifCond .ne 6, 3) := by decide +kernel
theorem dX6_stand_19 : decode cX6_stand 19 = .ok (.ldc 89, 2) := by decide +kernel
theorem dX6_stand_21 : decode cX6_stand 21 = .ok (.ireturn, 1) := by decide +kernel
theorem dX6_stand_22 : decode cX6_stand 22 = .ok (.aload_n 0, 1) := by decide +kernel
theorem dX6_stand_23 : decode cX6_stand 23 = .ok (.invokevirtual 78, 3) := by decide +kernel
theorem dX6_stand_26 : decode cX6_stand 26 = .ok (.aload_n 0, 1) := by decide +kernel
theorem dX6_stand_27 : decode cX6_stand 27 = .ok (.iload_n 1, 1) := by decide +kernel
theorem dX6_stand_28 : decode cX6_stand 28 = .ok (.iconst 3, 1) := by decide +kernel
theorem dX6_stand_29 : decode cX6_stand 29 = .ok (.invokevirtual 46, 3) := by decide +kernel
theorem dX6_stand_32 : decode cX6_stand 32 = .ok (.istore_n 2, 1) := by decide +kernel
theorem dX6_stand_33 : decode cX6_stand 33 = .ok (.aload_n 0, 1) := by decide +kernel
theorem dX6_stand_34 : decode cX6_stand 34 = .ok (.iload_n 1, 1) := by decide +kernel
theorem dX6_stand_35 : decode cX6_stand 35 = .ok (.iconst 3, 1) := by decide +kernel
theorem dX6_stand_36 : decode cX6_stand 36 = .ok (.iconst (-1), 1) := by decide +kernel
theorem dX6_stand_37 : decode cX6_stand 37 = .ok (.invokevirtual 82, 3) := by decide +kernel
theorem dX6_stand_40 : decode cX6_stand 40 = .ok (.iload_n 2, 1) := by decide +kernel
theorem dX6_stand_41 : decode cX6_stand 41 = .ok (.ireturn, 1) := by decide +kernel
theorem dX6_give_0 : decode cX6_give 0 = .ok (.aload_n 0, 1) := by decide +kernel
theorem dX6_give_1 : decode cX6_give 1 = .ok (.iload_n 1, 1) := by decide +kernel
theorem dX6_give_2 : decode cX6_give 2 = .ok (.invokevirtual 86, 3) := by decide +kernel
theorem dX6_give_5 : decode cX6_give 5 = .ok (.ifCond .eq 14, 3) := by decide +kernel
theorem dX6_give_8 : decode cX6_give 8 = .ok (.iload_n 2, 1) := by decide +kernel
theorem dX6_give_9 : decode cX6_give 9 = .ok (.iconst 1, 1) := by decide +kernel
theorem dX6_give_10 : decode cX6_give 10 = .ok (.sipush 9999, 3) := by decide +kernel
theorem dX6_give_13 : decode cX6_give 13 = .ok (.invokestatic 42, 3) := by decide +kernel
theorem dX6_give_16 : decode cX6_give 16 = .ok (.ifCond .ne 6, 3) := by decide +kernel
theorem dX6_give_19 : decode cX6_give 19 = .ok (.ldc 77, 2) := by decide +kernel
theorem dX6_give_21 : decode cX6_give 21 = .ok (.ireturn, 1) := by decide +kernel
theorem dX6_give_22 : decode cX6_give 22 = .ok (.aload_n 0, 1) := by decide +kernel
theorem dX6_give_23 : decode cX6_give 23 = .ok (.iload_n 1, 1) := by decide +kernel
theorem dX6_give_24 : decode cX6_give 24 = .ok (.iconst 2, 1) := by decide +kernel
theorem dX6_give_25 : decode cX6_give 25 = .ok (.invokevirtual 46, 3) := by decide +kernel
theorem dX6_give_28 : decode cX6_give 28 = .ok (.iload_n 2, 1) := by decide +kernel
theorem dX6_give_29 : decode cX6_give 29 = .ok (.iadd, 1) := by decide +kernel
theorem dX6_give_30 : decode cX6_give 30 = .ok (.ldc 93, 2) := by decide +kernel
theorem dX6_give_32 : decode cX6_give 32 = .ok (.if_icmp .le 6, 3) := by decide +kernel
theorem dX6_give_35 : decode cX6_give 35 = .ok (.ldc 81, 2) := by decide +kernel
theorem dX6_give_37 : decode cX6_give 37 = .ok (.ireturn, 1) := by decide +kernel
theorem dX6_give_38 : decode cX6_give 38 = .ok (.aload_n 0, 1) := by decide +kernel
theorem dX6_give_39 : decode cX6_give 39 = .ok (.invokevirtual 78, 3) := by decide +kernel
theorem dX6_give_42 : decode cX6_give 42 = .ok (.aload_n 0, 1) := by decide +kernel
theorem dX6_give_43 : decode cX6_give 43 = .ok (.iload_n 1, 1) := by decide +kernel
theorem dX6_give_44 : decode cX6_give 44 = .ok (.iconst 2, 1) := by decide +kernel
theorem dX6_give_45 : decode cX6_give 45 = .ok (.iload_n 2, 1) := by decide +kernel
theorem dX6_give_46 : decode cX6_give 46 = .ok (.invokevirtual 94, 3) := by decide +kernel
theorem dX6_give_49 : decode cX6_give 49 = .ok (.aload_n 0, 1) := by decide +kernel
theorem dX6_give_50 : decode cX6_give 50 = .ok (.iload_n 1, 1) := by decide +kernel
theorem dX6_give_51 : decode cX6_give 51 = .ok (.iconst 2, 1) := by decide +kernel
theorem dX6_give_52 : decode cX6_give 52 = .ok (.invokevirtual 46, 3) := by decide +kernel
theorem dX6_give_55 : decode cX6_give 55 = .ok (.ireturn, 1) := by decide +kernel
theorem dX6_lend_0 : decode cX6_lend 0 = .ok (.aload_n 0, 1) := by decide +kernel
theorem dX6_lend_1 : decode cX6_lend 1 = .ok (.iload_n 1, 1) := by decide +kernel
theorem dX6_lend_2 : decode cX6_lend 2 = .ok (.invokevirtual 86, 3) := by decide +kernel
theorem dX6_lend_5 : decode cX6_lend 5 = .ok (.ifCond .eq 27, 3) := by decide +kernel
theorem dX6_lend_8 : decode cX6_lend 8 = .ok (.aload_n 0, 1) := by decide +kernel
theorem dX6_lend_9 : decode cX6_lend 9 = .ok (.iload_n 2, 1) := by decide +kernel
theorem dX6_lend_10 : decode cX6_lend 10 = .ok (.invokevirtual 86, 3) := by decide +kernel
theorem dX6_lend_13 : decode cX6_lend 13 = .ok (.ifCond .eq 19, 3) := by decide +kernel
theorem dX6_lend_16 : decode cX6_lend 16 = .ok (.iload_n 1, 1) := by decide +kernel
theorem dX6_lend_17 : decode cX6_lend 17 = .ok (.iload_n 2, 1) := by decide +kernel
theorem dX6_lend_18 : decode cX6_lend 18 = .ok (.if_icmp .eq 14, 3) := by decide +kernel
theorem dX6_lend_21 : decode cX6_lend 21 = .ok (.iload_n 3, 1) := by decide +kernel
theorem dX6_lend_22 : decode cX6_lend 22 = .ok (.iconst 1, 1) := by decide +kernel
theorem dX6_lend_23 : decode cX6_lend 23 = .ok (.sipush 9999, 3) := by decide +kernel
theorem dX6_lend_26 : decode cX6_lend 26 = .ok (.invokestatic 42, 3) := by decide +kernel
theorem dX6_lend_29 : decode cX6_lend 29 = .ok (.ifCond .ne 6, 3) := by decide +kernel
theorem dX6_lend_32 : decode cX6_lend 32 = .ok (.ldc 77, 2) := by decide +kernel
theorem dX6_lend_34 : decode cX6_lend 34 = .ok (.ireturn, 1) := by decide +kernel
theorem dX6_lend_35 : decode cX6_lend 35 = .ok (.aload_n 0, 1) := by decide +kernel
theorem dX6_lend_36 : decode cX6_lend 36 = .ok (.iload_n 1, 1) := by decide +kernel
theorem dX6_lend_37 : decode cX6_lend 37 = .ok (.iconst 2, 1) := by decide +kernel
theorem dX6_lend_38 : decode cX6_lend 38 = .ok (.invokevirtual 46, 3) := by decide +kernel
theorem dX6_lend_41 : decode cX6_lend 41 = .ok (.iload_n 3, 1) := by decide +kernel
theorem dX6_lend_42 : decode cX6_lend 42 = .ok (.if_icmp .ge 6, 3) := by decide +kernel
theorem dX6_lend_45 : decode cX6_lend 45 = .ok (.ldc 89, 2) := by decide +kernel
theorem dX6_lend_47 : decode cX6_lend 47 = .ok (.ireturn, 1) := by decide +kernel
theorem dX6_lend_48 : decode cX6_lend 48 = .ok (.aload_n 0, 1) := by decide +kernel
theorem dX6_lend_49 : decode cX6_lend 49 = .ok (.getfield 7, 3) := by decide +kernel
theorem dX6_lend_52 : decode cX6_lend 52 = .ok (.bipush 8, 2) := by decide +kernel
theorem dX6_lend_54 : decode cX6_lend 54 = .ok (.iaload, 1) := by decide +kernel
theorem dX6_lend_55 : decode cX6_lend 55 = .ok (.bipush 8, 2) := by decide +kernel
theorem dX6_lend_57 : decode cX6_lend 57 = .ok (.if_icmp .ne 6, 3) := by decide +kernel
theorem dX6_lend_60 : decode cX6_lend 60 = .ok (.ldc 81, 2) := by decide +kernel
theorem dX6_lend_62 : decode cX6_lend 62 = .ok (.ireturn, 1) := by decide +kernel
theorem dX6_lend_63 : decode cX6_lend 63 = .ok (.aload_n 0, 1) := by decide +kernel
theorem dX6_lend_64 : decode cX6_lend 64 = .ok (.invokevirtual 78, 3) := by decide +kernel
theorem dX6_lend_67 : decode cX6_lend 67 = .ok (.aload_n 0, 1) := by decide +kernel
theorem dX6_lend_68 : decode cX6_lend 68 = .ok (.getfield 7, 3) := by decide +kernel
theorem dX6_lend_71 : decode cX6_lend 71 = .ok (.bipush 8, 2) := by decide +kernel
theorem dX6_lend_73 : decode cX6_lend 73 = .ok (.iaload, 1) := by decide +kernel
theorem dX6_lend_74 : decode cX6_lend 74 = .ok (.istore 4, 2) := by decide +kernel
theorem dX6_lend_76 : decode cX6_lend 76 = .ok (.aload_n 0, 1) := by decide +kernel
theorem dX6_lend_77 : decode cX6_lend 77 = .ok (.getfield 7, 3) := by decide +kernel
theorem dX6_lend_80 : decode cX6_lend 80 = .ok (.sipush 325, 3) := by decide +kernel
theorem dX6_lend_83 : decode cX6_lend 83 = .ok (.iconst 3, 1) := by decide +kernel
theorem dX6_lend_84 : decode cX6_lend 84 = .ok (.iload 4, 2) := by decide +kernel
theorem dX6_lend_86 : decode cX6_lend 86 = .ok (.imul, 1) := by decide +kernel
theorem dX6_lend_87 : decode cX6_lend 87 = .ok (.iadd, 1) := by decide +kernel
theorem dX6_lend_88 : decode cX6_lend 88 = .ok (.iconst 0, 1) := by decide +kernel
theorem dX6_lend_89 : decode cX6_lend 89 = .ok (.iadd, 1) := by decide +kernel
theorem dX6_lend_90 : decode cX6_lend 90 = .ok (.iload_n 1, 1) := by decide +kernel
theorem dX6_lend_91 : decode cX6_lend 91 = .ok (.iastore, 1) := by decide +kernel
theorem dX6_lend_92 : decode cX6_lend 92 = .ok (.aload_n 0, 1) := by decide +kernel
theorem dX6_lend_93 : decode cX6_lend 93 = .ok (.getfield 7, 3) := by decide +kernel
theorem dX6_lend_96 : decode cX6_lend 96 = .ok (.sipush 325, 3) := by decide +kernel
theorem dX6_lend_99 : decode cX6_lend 99 = .ok (.iconst 3, 1) := by decide +kernel
theorem dX6_lend_100 : decode cX6_lend 100 = .ok (.iload 4, 2) := by decide +kernel
theorem dX6_lend_102 : decode cX6_lend 102 = .ok (.imul, 1) := by decide +kernel
theorem dX6_lend_103 : decode cX6_lend 103 = .ok (.iadd, 1) := by decide +kernel
theorem dX6_lend_104 : decode cX6_lend 104 = .ok (.iconst 1, 1) := by decide +kernel
theorem dX6_lend_105 : decode cX6_lend 105 = .ok (.iadd, 1) := by decide +kernel
theorem dX6_lend_106 : decode cX6_lend 106 = .ok (.iload_n 2, 1) := by decide +kernel
theorem dX6_lend_107 : decode cX6_lend 107 = .ok (.iastore, 1) := by decide +kernel
theorem dX6_lend_108 : decode cX6_lend 108 = .ok (.aload_n 0, 1) := by decide +kernel
theorem dX6_lend_109 : decode cX6_lend 109 = .ok (.getfield 7, 3) := by decide +kernel
theorem dX6_lend_112 : decode cX6_lend 112 = .ok (.sipush 325, 3) := by decide +kernel
theorem dX6_lend_115 : decode cX6_lend 115 = .ok (.iconst 3, 1) := by decide +kernel
theorem dX6_lend_116 : decode cX6_lend 116 = .ok (.iload 4, 2) := by decide +kernel
theorem dX6_lend_118 : decode cX6_lend 118 = .ok (.imul, 1) := by decide +kernel
theorem dX6_lend_119 : decode cX6_lend 119 = .ok (.iadd, 1) := by decide +kernel
theorem dX6_lend_120 : decode cX6_lend 120 = .ok (.iconst 2, 1) := by decide +kernel
theorem dX6_lend_121 : decode cX6_lend 121 = .ok (.iadd, 1) := by decide +kernel
theorem dX6_lend_122 : decode cX6_lend 122 = .ok (.iload_n 3, 1) := by decide +kernel
theorem dX6_lend_123 : decode cX6_lend 123 = .ok (.iastore, 1) := by decide +kernel
theorem dX6_lend_124 : decode cX6_lend 124 = .ok (.aload_n 0, 1) := by decide +kernel
theorem dX6_lend_125 : decode cX6_lend 125 = .ok (.getfield 7, 3) := by decide +kernel
theorem dX6_lend_128 : decode cX6_lend 128 = .ok (.bipush 8, 2) := by decide +kernel
theorem dX6_lend_130 : decode cX6_lend 130 = .ok (.dup2, 1) := by decide +kernel
theorem dX6_lend_131 : decode cX6_lend 131 = .ok (.iaload, 1) := by decide +kernel
theorem dX6_lend_132 : decode cX6_lend 132 = .ok (.iconst 1, 1) := by decide +kernel
theorem dX6_lend_133 : decode cX6_lend 133 = .ok (.iadd, 1) := by decide +kernel
theorem dX6_lend_134 : decode cX6_lend 134 = .ok (.iastore, 1) := by decide +kernel
theorem dX6_lend_135 : decode cX6_lend 135 = .ok (.aload_n 0, 1) := by decide +kernel
theorem dX6_lend_136 : decode cX6_lend 136 = .ok (.iload_n 1, 1) := by decide +kernel
theorem dX6_lend_137 : decode cX6_lend 137 = .ok (.iconst 2, 1) := by decide +kernel
theorem dX6_lend_138 : decode cX6_lend 138 = .ok (.iload_n 3, 1) := by decide +kernel
theorem dX6_lend_139 : decode cX6_lend 139 = .ok (.ineg, 1) := by decide +kernel
theorem dX6_lend_140 : decode cX6_lend 140 = .ok (.invokevirtual 94, 3) := by decide +kernel
theorem dX6_lend_143 : decode cX6_lend 143 = .ok (.aload_n 0, 1) := by decide +kernel
theorem dX6_lend_144 : decode cX6_lend 144 = .ok (.iload_n 2, 1) := by decide +kernel
theorem dX6_lend_145 : decode cX6_lend 145 = .ok (.iconst 2, 1) := by decide +kernel
theorem dX6_lend_146 : decode cX6_lend 146 = .ok (.iload_n 3, 1) := by decide +kernel
theorem dX6_lend_147 : decode cX6_lend 147 = .ok (.invokevirtual 94, 3) := by decide +kernel
theorem dX6_lend_150 : decode cX6_lend 150 = .ok (.iload 4, 2) := by decide +kernel
theorem dX6_lend_152 : decode cX6_lend 152 = .ok (.ireturn, 1) := by decide +kernel
theorem dX6_paysBack_0 : decode cX6_paysBack 0 = .ok (.iload_n 2, 1) := by decide +kernel
theorem dX6_paysBack_1 : decode cX6_paysBack 1 = .ok (.aload_n 0, 1) := by decide +kernel
theorem dX6_paysBack_2 : decode cX6_paysBack 2 = .ok (.getfield 7, 3) := by decide +kernel
theorem dX6_paysBack_5 : decode cX6_paysBack 5 = .ok (.iconst 2, 1) := by decide +kernel
theorem dX6_paysBack_6 : decode cX6_paysBack 6 = .ok (.iaload, 1) := by decide +kernel
theorem dX6_paysBack_7 : decode cX6_paysBack 7 = .ok (.imul, 1) := by decide +kernel
theorem dX6_paysBack_8 : decode cX6_paysBack 8 = .ok (.bipush 100, 2) := by decide +kernel
theorem dX6_paysBack_10 : decode cX6_paysBack 10 = .ok (.idiv, 1) := by decide +kernel
theorem dX6_paysBack_11 : decode cX6_paysBack 11 = .ok (.istore_n 3, 1) := by decide +kernel
theorem dX6_paysBack_12 : decode cX6_paysBack 12 = .ok (.iconst 0, 1) := by decide +kernel
theorem dX6_paysBack_13 : decode cX6_paysBack 13 = .ok (.istore 4, 2) := by decide +kernel
theorem dX6_paysBack_15 : decode cX6_paysBack 15 = .ok (.iconst 0, 1) := by decide +kernel
theorem dX6_paysBack_16 : decode cX6_paysBack 16 = .ok (.istore 5, 2) := by decide +kernel
theorem dX6_paysBack_18 : decode cX6_paysBack 18 = .ok (.iload 5, 2) := by decide +kernel
theorem dX6_paysBack_20 : decode cX6_paysBack 20 = .ok (.aload_n 0, 1) := by decide +kernel
theorem dX6_paysBack_21 : decode cX6_paysBack 21 = .ok (.getfield 7, 3) := by decide +kernel
theorem dX6_paysBack_24 : decode cX6_paysBack 24 = .ok (.bipush 8, 2) := by decide +kernel
theorem dX6_paysBack_26 : decode cX6_paysBack 26 = .ok (.iaload, 1) := by decide +kernel
theorem dX6_paysBack_27 : decode cX6_paysBack 27 = .ok (.if_icmp .ge 156, 3) := by decide +kernel
theorem dX6_paysBack_30 : decode cX6_paysBack 30 = .ok (.iconst 0, 1) := by decide +kernel
theorem dX6_paysBack_31 : decode cX6_paysBack 31 = .ok (.istore 6, 2) := by decide +kernel
theorem dX6_paysBack_33 : decode cX6_paysBack 33 = .ok (.aload_n 0, 1) := by decide +kernel
theorem dX6_paysBack_34 : decode cX6_paysBack 34 = .ok (.iload 5, 2) := by decide +kernel
theorem dX6_paysBack_36 : decode cX6_paysBack 36 = .ok (.iconst 1, 1) := by decide +kernel
theorem dX6_paysBack_37 : decode cX6_paysBack 37 = .ok (.invokevirtual 97, 3) := by decide +kernel
theorem dX6_paysBack_40 : decode cX6_paysBack 40 = .ok (.iload_n 1, 1) := by decide +kernel
theorem dX6_paysBack_41 : decode cX6_paysBack 41 = .ok (.if_icmp .ne 55, 3) := by decide +kernel
theorem dX6_paysBack_44 : decode cX6_paysBack 44 = .ok (.iload_n 3, 1) := by decide +kernel
theorem dX6_paysBack_45 : decode cX6_paysBack 45 = .ok (.aload_n 0, 1) := by decide +kernel
theorem dX6_paysBack_46 : decode cX6_paysBack 46 = .ok (.iload 5, 2) := by decide +kernel
theorem dX6_paysBack_48 : decode cX6_paysBack 48 = .ok (.iconst 2, 1) := by decide +kernel
theorem dX6_paysBack_49 : decode cX6_paysBack 49 = .ok (.invokevirtual 97, 3) := by decide +kernel
theorem dX6_paysBack_52 : decode cX6_paysBack 52 = .ok (.if_icmp .ge 7, 3) := by decide +kernel
theorem dX6_paysBack_55 : decode cX6_paysBack 55 = .ok (.iload_n 3, 1) := by decide +kernel
theorem dX6_paysBack_56 : decode cX6_paysBack 56 = .ok (.goto 10, 3) := by decide +kernel
theorem dX6_paysBack_59 : decode cX6_paysBack 59 = .ok (.aload_n 0, 1) := by decide +kernel
theorem dX6_paysBack_60 : decode cX6_paysBack 60 = .ok (.iload 5, 2) := by decide +kernel
theorem dX6_paysBack_62 : decode cX6_paysBack 62 = .ok (.iconst 2, 1) := by decide +kernel
theorem dX6_paysBack_63 : decode cX6_paysBack 63 = .ok (.invokevirtual 97, 3) := by decide +kernel
theorem dX6_paysBack_66 : decode cX6_paysBack 66 = .ok (.istore 6, 2) := by decide +kernel
theorem dX6_paysBack_68 : decode cX6_paysBack 68 = .ok (.aload_n 0, 1) := by decide +kernel
theorem dX6_paysBack_69 : decode cX6_paysBack 69 = .ok (.iload_n 1, 1) := by decide +kernel
theorem dX6_paysBack_70 : decode cX6_paysBack 70 = .ok (.iconst 2, 1) := by decide +kernel
theorem dX6_paysBack_71 : decode cX6_paysBack 71 = .ok (.iload 6, 2) := by decide +kernel
theorem dX6_paysBack_73 : decode cX6_paysBack 73 = .ok (.ineg, 1) := by decide +kernel
theorem dX6_paysBack_74 : decode cX6_paysBack 74 = .ok (.invokevirtual 94, 3) := by decide +kernel
theorem dX6_paysBack_77 : decode cX6_paysBack 77 = .ok (.aload_n 0, 1) := by decide +kernel
theorem dX6_paysBack_78 : decode cX6_paysBack 78 = .ok (.aload_n 0, 1) := by decide +kernel
theorem dX6_paysBack_79 : decode cX6_paysBack 79 = .ok (.iload 5, 2) := by decide +kernel
theorem dX6_paysBack_81 : decode cX6_paysBack 81 = .ok (.iconst 0, 1) := by decide +kernel
theorem dX6_paysBack_82 : decode cX6_paysBack 82 = .ok (.invokevirtual 97, 3) := by decide +kernel
theorem dX6_paysBack_85 : decode cX6_paysBack 85 = .ok (.iconst 2, 1) := by decide +kernel
theorem dX6_paysBack_86 : decode cX6_paysBack 86 = .ok (.iload 6, 2) := by decide +kernel
theorem dX6_paysBack_88 : decode cX6_paysBack 88 = .ok (.invokevirtual 94, 3) := by decide +kernel
theorem dX6_paysBack_91 : decode cX6_paysBack 91 = .ok (.iload_n 3, 1) := by decide +kernel
theorem dX6_paysBack_92 : decode cX6_paysBack 92 = .ok (.iload 6, 2) := by decide +kernel
theorem dX6_paysBack_94 : decode cX6_paysBack 94 = .ok (.isub, 1) := by decide +kernel
theorem dX6_paysBack_95 : decode cX6_paysBack 95 = .ok (.istore_n 3, 1) := by decide +kernel
theorem dX6_paysBack_96 : decode cX6_paysBack 96 = .ok (.aload_n 0, 1) := by decide +kernel
theorem dX6_paysBack_97 : decode cX6_paysBack 97 = .ok (.iload 5, 2) := by decide +kernel
theorem dX6_paysBack_99 : decode cX6_paysBack 99 = .ok (.iconst 2, 1) := by decide +kernel
theorem dX6_paysBack_100 : decode cX6_paysBack 100 = .ok (.invokevirtual 97, 3) := by decide +kernel
theorem dX6_paysBack_103 : decode cX6_paysBack 103 = .ok (.iload 6, 2) := by decide +kernel
theorem dX6_paysBack_105 : decode cX6_paysBack 105 = .ok (.isub, 1) := by decide +kernel
theorem dX6_paysBack_106 : decode cX6_paysBack 106 = .ok (.istore 7, 2) := by decide +kernel
theorem dX6_paysBack_108 : decode cX6_paysBack 108 = .ok (.iload 7, 2) := by decide +kernel
theorem dX6_paysBack_110 : decode cX6_paysBack 110 = .ok (.ifCond .le 67, 3) := by decide +kernel
theorem dX6_paysBack_113 : decode cX6_paysBack 113 = .ok (.aload_n 0, 1) := by decide +kernel
theorem dX6_paysBack_114 : decode cX6_paysBack 114 = .ok (.getfield 7, 3) := by decide +kernel
theorem dX6_paysBack_117 : decode cX6_paysBack 117 = .ok (.sipush 325, 3) := by decide +kernel
theorem dX6_paysBack_120 : decode cX6_paysBack 120 = .ok (.iconst 3, 1) := by decide +kernel
theorem dX6_paysBack_121 : decode cX6_paysBack 121 = .ok (.iload 4, 2) := by decide +kernel
theorem dX6_paysBack_123 : decode cX6_paysBack 123 = .ok (.imul, 1) := by decide +kernel
theorem dX6_paysBack_124 : decode cX6_paysBack 124 = .ok (.iadd, 1) := by decide +kernel
theorem dX6_paysBack_125 : decode cX6_paysBack 125 = .ok (.iconst 0, 1) := by decide +kernel
theorem dX6_paysBack_126 : decode cX6_paysBack 126 = .ok (.iadd, 1) := by decide +kernel
theorem dX6_paysBack_127 : decode cX6_paysBack 127 = .ok (.aload_n 0, 1) := by decide +kernel
theorem dX6_paysBack_128 : decode cX6_paysBack 128 = .ok (.iload 5, 2) := by decide +kernel
theorem dX6_paysBack_130 : decode cX6_paysBack 130 = .ok (.iconst 0, 1) := by decide +kernel
theorem dX6_paysBack_131 : decode cX6_paysBack 131 = .ok (.invokevirtual 97, 3) := by decide +kernel
theorem dX6_paysBack_134 : decode cX6_paysBack 134 = .ok (.iastore, 1) := by decide +kernel
theorem dX6_paysBack_135 : decode cX6_paysBack 135 = .ok (.aload_n 0, 1) := by decide +kernel
theorem dX6_paysBack_136 : decode cX6_paysBack 136 = .ok (.getfield 7, 3) := by decide +kernel
theorem dX6_paysBack_139 : decode cX6_paysBack 139 = .ok (.sipush 325, 3) := by decide +kernel
theorem dX6_paysBack_142 : decode cX6_paysBack 142 = .ok (.iconst 3, 1) := by decide +kernel
theorem dX6_paysBack_143 : decode cX6_paysBack 143 = .ok (.iload 4, 2) := by decide +kernel
theorem dX6_paysBack_145 : decode cX6_paysBack 145 = .ok (.imul, 1) := by decide +kernel
theorem dX6_paysBack_146 : decode cX6_paysBack 146 = .ok (.iadd, 1) := by decide +kernel
theorem dX6_paysBack_147 : decode cX6_paysBack 147 = .ok (.iconst 1, 1) := by decide +kernel
theorem dX6_paysBack_148 : decode cX6_paysBack 148 = .ok (.iadd, 1) := by decide +kernel
theorem dX6_paysBack_149 : decode cX6_paysBack 149 = .ok (.aload_n 0, 1) := by decide +kernel
theorem dX6_paysBack_150 : decode cX6_paysBack 150 = .ok (.iload 5, 2) := by decide +kernel
theorem dX6_paysBack_152 : decode cX6_paysBack 152 = .ok (.iconst 1, 1) := by decide +kernel
theorem dX6_paysBack_153 : decode cX6_paysBack 153 = .ok (.invokevirtual 97, 3) := by decide +kernel
theorem dX6_paysBack_156 : decode cX6_paysBack 156 = .ok (.iastore, 1) := by decide +kernel
theorem dX6_paysBack_157 : decode cX6_paysBack 157 = .ok (.aload_n 0, 1) := by decide +kernel
theorem dX6_paysBack_158 : decode cX6_paysBack 158 = .ok (.getfield 7, 3) := by decide +kernel
theorem dX6_paysBack_161 : decode cX6_paysBack 161 = .ok (.sipush 325, 3) := by decide +kernel
theorem dX6_paysBack_164 : decode cX6_paysBack 164 = .ok (.iconst 3, 1) := by decide +kernel
theorem dX6_paysBack_165 : decode cX6_paysBack 165 = .ok (.iload 4, 2) := by decide +kernel
theorem dX6_paysBack_167 : decode cX6_paysBack 167 = .ok (.imul, 1) := by decide +kernel
theorem dX6_paysBack_168 : decode cX6_paysBack 168 = .ok (.iadd, 1) := by decide +kernel
theorem dX6_paysBack_169 : decode cX6_paysBack 169 = .ok (.iconst 2, 1) := by decide +kernel
theorem dX6_paysBack_170 : decode cX6_paysBack 170 = .ok (.iadd, 1) := by decide +kernel
theorem dX6_paysBack_171 : decode cX6_paysBack 171 = .ok (.iload 7, 2) := by decide +kernel
theorem dX6_paysBack_173 : decode cX6_paysBack 173 = .ok (.iastore, 1) := by decide +kernel
theorem dX6_paysBack_174 : decode cX6_paysBack 174 = .ok (.iinc 4 1, 3) := by decide +kernel
theorem dX6_paysBack_177 : decode cX6_paysBack 177 = .ok (.iinc 5 1, 3) := by decide +kernel
theorem dX6_paysBack_180 : decode cX6_paysBack 180 = .ok (.goto (-162), 3) := by decide +kernel
theorem dX6_paysBack_183 : decode cX6_paysBack 183 = .ok (.aload_n 0, 1) := by decide +kernel
theorem dX6_paysBack_184 : decode cX6_paysBack 184 = .ok (.getfield 7, 3) := by decide +kernel
theorem dX6_paysBack_187 : decode cX6_paysBack 187 = .ok (.bipush 8, 2) := by decide +kernel
theorem dX6_paysBack_189 : decode cX6_paysBack 189 = .ok (.iload 4, 2) := by decide +kernel
theorem dX6_paysBack_191 : decode cX6_paysBack 191 = .ok (.iastore, 1) := by decide +kernel
theorem dX6_paysBack_192 : decode cX6_paysBack 192 = .ok (.return_, 1) := by decide +kernel
theorem dX6_bets_0 : decode cX6_bets 0 = .ok (.iconst 0, 1) := by decide +kernel
theorem dX6_bets_1 : decode cX6_bets 1 = .ok (.istore_n 2, 1) := by decide +kernel
theorem dX6_bets_2 : decode cX6_bets 2 = .ok (.iconst 0, 1) := by decide +kernel
theorem dX6_bets_3 : decode cX6_bets 3 = .ok (.istore_n 3, 1) := by decide +kernel
theorem dX6_bets_4 : decode cX6_bets 4 = .ok (.iconst 0, 1) := by decide +kernel
theorem dX6_bets_5 : decode cX6_bets 5 = .ok (.istore 4, 2) := by decide +kernel
theorem dX6_bets_7 : decode cX6_bets 7 = .ok (.iload 4, 2) := by decide +kernel
theorem dX6_bets_9 : decode cX6_bets 9 = .ok (.aload_n 0, 1) := by decide +kernel
theorem dX6_bets_10 : decode cX6_bets 10 = .ok (.getfield 7, 3) := by decide +kernel
theorem dX6_bets_13 : decode cX6_bets 13 = .ok (.bipush 7, 2) := by decide +kernel
theorem dX6_bets_15 : decode cX6_bets 15 = .ok (.iaload, 1) := by decide +kernel
theorem dX6_bets_16 : decode cX6_bets 16 = .ok (.if_icmp .ge 81, 3) := by decide +kernel
theorem dX6_bets_19 : decode cX6_bets 19 = .ok (.iload_n 2, 1) := by decide +kernel
theorem dX6_bets_20 : decode cX6_bets 20 = .ok (.aload_n 0, 1) := by decide +kernel
theorem dX6_bets_21 : decode cX6_bets 21 = .ok (.getfield 22, 3) := by decide +kernel
theorem dX6_bets_24 : decode cX6_bets 24 = .ok (.iload 4, 2) := by decide +kernel
theorem dX6_bets_26 : decode cX6_bets 26 = .ok (.iaload, 1) := by decide +kernel
theorem dX6_bets_27 : decode cX6_bets 27 = .ok (.iconst 1, 1) := by decide +kernel
theorem dX6_bets_28 : decode cX6_bets 28 = .ok (.if_icmp .ne 24, 3) := by decide +kernel
theorem dX6_bets_31 : decode cX6_bets 31 = .ok (.aload_n 0, 1) := by decide +kernel
theorem dX6_bets_32 : decode cX6_bets 32 = .ok (.getfield 25, 3) := by decide +kernel
theorem dX6_bets_35 : decode cX6_bets 35 = .ok (.iload 4, 2) := by decide +kernel
theorem dX6_bets_37 : decode cX6_bets 37 = .ok (.iaload, 1) := by decide +kernel
theorem dX6_bets_38 : decode cX6_bets 38 = .ok (.iload_n 1, 1) := by decide +kernel
theorem dX6_bets_39 : decode cX6_bets 39 = .ok (.if_icmp .eq 13, 3) := by decide +kernel
theorem dX6_bets_42 : decode cX6_bets 42 = .ok (.aload_n 0, 1) := by decide +kernel
theorem dX6_bets_43 : decode cX6_bets 43 = .ok (.getfield 28, 3) := by decide +kernel
theorem dX6_bets_46 : decode cX6_bets 46 = .ok (.iload 4, 2) := by decide +kernel
theorem dX6_bets_48 : decode cX6_bets 48 = .ok (.iaload, 1) := by decide +kernel
theorem dX6_bets_49 : decode cX6_bets 49 = .ok (.goto 4, 3) := by decide +kernel
theorem dX6_bets_52 : decode cX6_bets 52 = .ok (.iconst 0, 1) := by decide +kernel
theorem dX6_bets_53 : decode cX6_bets 53 = .ok (.iadd, 1) := by decide +kernel
theorem dX6_bets_54 : decode cX6_bets 54 = .ok (.istore_n 2, 1) := by decide +kernel
theorem dX6_bets_55 : decode cX6_bets 55 = .ok (.iload_n 3, 1) := by decide +kernel
theorem dX6_bets_56 : decode cX6_bets 56 = .ok (.aload_n 0, 1) := by decide +kernel
theorem dX6_bets_57 : decode cX6_bets 57 = .ok (.getfield 22, 3) := by decide +kernel
theorem dX6_bets_60 : decode cX6_bets 60 = .ok (.iload 4, 2) := by decide +kernel
theorem dX6_bets_62 : decode cX6_bets 62 = .ok (.iaload, 1) := by decide +kernel
theorem dX6_bets_63 : decode cX6_bets 63 = .ok (.iconst 1, 1) := by decide +kernel
theorem dX6_bets_64 : decode cX6_bets 64 = .ok (.if_icmp .ne 24, 3) := by decide +kernel
theorem dX6_bets_67 : decode cX6_bets 67 = .ok (.aload_n 0, 1) := by decide +kernel
theorem dX6_bets_68 : decode cX6_bets 68 = .ok (.getfield 25, 3) := by decide +kernel
theorem dX6_bets_71 : decode cX6_bets 71 = .ok (.iload 4, 2) := by decide +kernel
theorem dX6_bets_73 : decode cX6_bets 73 = .ok (.iaload, 1) := by decide +kernel
theorem dX6_bets_74 : decode cX6_bets 74 = .ok (.iload_n 1, 1) := by decide +kernel
theorem dX6_bets_75 : decode cX6_bets 75 = .ok (.if_icmp .ne 13, 3) := by decide +kernel
theorem dX6_bets_78 : decode cX6_bets 78 = .ok (.aload_n 0, 1) := by decide +kernel
theorem dX6_bets_79 : decode cX6_bets 79 = .ok (.getfield 28, 3) := by decide +kernel
theorem dX6_bets_82 : decode cX6_bets 82 = .ok (.iload 4, 2) := by decide +kernel
theorem dX6_bets_84 : decode cX6_bets 84 = .ok (.iaload, 1) := by decide +kernel
theorem dX6_bets_85 : decode cX6_bets 85 = .ok (.goto 4, 3) := by decide +kernel
theorem dX6_bets_88 : decode cX6_bets 88 = .ok (.iconst 0, 1) := by decide +kernel
theorem dX6_bets_89 : decode cX6_bets 89 = .ok (.iadd, 1) := by decide +kernel
theorem dX6_bets_90 : decode cX6_bets 90 = .ok (.istore_n 3, 1) := by decide +kernel
theorem dX6_bets_91 : decode cX6_bets 91 = .ok (.iinc 4 1, 3) := by decide +kernel
theorem dX6_bets_94 : decode cX6_bets 94 = .ok (.goto (-87), 3) := by decide +kernel
theorem dX6_bets_97 : decode cX6_bets 97 = .ok (.iload_n 2, 1) := by decide +kernel
theorem dX6_bets_98 : decode cX6_bets 98 = .ok (.ifCond .eq 7, 3) := by decide +kernel
theorem dX6_bets_101 : decode cX6_bets 101 = .ok (.iload_n 3, 1) := by decide +kernel
theorem dX6_bets_102 : decode cX6_bets 102 = .ok (.ifCond .ne 5, 3) := by decide +kernel
theorem dX6_bets_105 : decode cX6_bets 105 = .ok (.iconst 0, 1) := by decide +kernel
theorem dX6_bets_106 : decode cX6_bets 106 = .ok (.ireturn, 1) := by decide +kernel
theorem dX6_bets_107 : decode cX6_bets 107 = .ok (.iload_n 2, 1) := by decide +kernel
theorem dX6_bets_108 : decode cX6_bets 108 = .ok (.iload_n 2, 1) := by decide +kernel
theorem dX6_bets_109 : decode cX6_bets 109 = .ok (.aload_n 0, 1) := by decide +kernel
theorem dX6_bets_110 : decode cX6_bets 110 = .ok (.getfield 7, 3) := by decide +kernel
theorem dX6_bets_113 : decode cX6_bets 113 = .ok (.iconst 1, 1) := by decide +kernel
theorem dX6_bets_114 : decode cX6_bets 114 = .ok (.iaload, 1) := by decide +kernel
theorem dX6_bets_115 : decode cX6_bets 115 = .ok (.imul, 1) := by decide +kernel
theorem dX6_bets_116 : decode cX6_bets 116 = .ok (.bipush 100, 2) := by decide +kernel
theorem dX6_bets_118 : decode cX6_bets 118 = .ok (.idiv, 1) := by decide +kernel
theorem dX6_bets_119 : decode cX6_bets 119 = .ok (.isub, 1) := by decide +kernel
theorem dX6_bets_120 : decode cX6_bets 120 = .ok (.istore 4, 2) := by decide +kernel
theorem dX6_bets_122 : decode cX6_bets 122 = .ok (.iload_n 2, 1) := by decide +kernel
theorem dX6_bets_123 : decode cX6_bets 123 = .ok (.istore 5, 2) := by decide +kernel
theorem dX6_bets_125 : decode cX6_bets 125 = .ok (.iconst 0, 1) := by decide +kernel
theorem dX6_bets_126 : decode cX6_bets 126 = .ok (.istore 6, 2) := by decide +kernel
theorem dX6_bets_128 : decode cX6_bets 128 = .ok (.iload 6, 2) := by decide +kernel
theorem dX6_bets_130 : decode cX6_bets 130 = .ok (.aload_n 0, 1) := by decide +kernel
theorem dX6_bets_131 : decode cX6_bets 131 = .ok (.getfield 7, 3) := by decide +kernel
theorem dX6_bets_134 : decode cX6_bets 134 = .ok (.bipush 7, 2) := by decide +kernel
theorem dX6_bets_136 : decode cX6_bets 136 = .ok (.iaload, 1) := by decide +kernel
theorem dX6_bets_137 : decode cX6_bets 137 = .ok (.if_icmp .ge 50, 3) := by decide +kernel
theorem dX6_bets_140 : decode cX6_bets 140 = .ok (.aload_n 0, 1) := by decide +kernel
theorem dX6_bets_141 : decode cX6_bets 141 = .ok (.iload 6, 2) := by decide +kernel
theorem dX6_bets_143 : decode cX6_bets 143 = .ok (.iconst 2, 1) := by decide +kernel
theorem dX6_bets_144 : decode cX6_bets 144 = .ok (.aload_n 0, 1) := by decide +kernel
theorem dX6_bets_145 : decode cX6_bets 145 = .ok (.getfield 22, 3) := by decide +kernel
theorem dX6_bets_148 : decode cX6_bets 148 = .ok (.iload 6, 2) := by decide +kernel
theorem dX6_bets_150 : decode cX6_bets 150 = .ok (.iaload, 1) := by decide +kernel
theorem dX6_bets_151 : decode cX6_bets 151 = .ok (.iconst 1, 1) := by decide +kernel
theorem dX6_bets_152 : decode cX6_bets 152 = .ok (.if_icmp .ne 25, 3) := by decide +kernel
theorem dX6_bets_155 : decode cX6_bets 155 = .ok (.aload_n 0, 1) := by decide +kernel
theorem dX6_bets_156 : decode cX6_bets 156 = .ok (.getfield 25, 3) := by decide +kernel
theorem dX6_bets_159 : decode cX6_bets 159 = .ok (.iload 6, 2) := by decide +kernel
theorem dX6_bets_161 : decode cX6_bets 161 = .ok (.iaload, 1) := by decide +kernel
theorem dX6_bets_162 : decode cX6_bets 162 = .ok (.iload_n 1, 1) := by decide +kernel
theorem dX6_bets_163 : decode cX6_bets 163 = .ok (.if_icmp .eq 14, 3) := by decide +kernel
theorem dX6_bets_166 : decode cX6_bets 166 = .ok (.aload_n 0, 1) := by decide +kernel
theorem dX6_bets_167 : decode cX6_bets 167 = .ok (.getfield 28, 3) := by decide +kernel
theorem dX6_bets_170 : decode cX6_bets 170 = .ok (.iload 6, 2) := by decide +kernel
theorem dX6_bets_172 : decode cX6_bets 172 = .ok (.iaload, 1) := by decide +kernel
theorem dX6_bets_173 : decode cX6_bets 173 = .ok (.ineg, 1) := by decide +kernel
theorem dX6_bets_174 : decode cX6_bets 174 = .ok (.goto 4, 3) := by decide +kernel
theorem dX6_bets_177 : decode cX6_bets 177 = .ok (.iconst 0, 1) := by decide +kernel
theorem dX6_bets_178 : decode cX6_bets 178 = .ok (.invokevirtual 94, 3) := by decide +kernel
theorem dX6_bets_181 : decode cX6_bets 181 = .ok (.iinc 6 1, 3) := by decide +kernel
theorem dX6_bets_184 : decode cX6_bets 184 = .ok (.goto (-56), 3) := by decide +kernel
theorem dX6_bets_187 : decode cX6_bets 187 = .ok (.iconst 0, 1) := by decide +kernel
theorem dX6_bets_188 : decode cX6_bets 188 = .ok (.istore 6, 2) := by decide +kernel
theorem dX6_bets_190 : decode cX6_bets 190 = .ok (.iload 6, 2) := by decide +kernel
theorem dX6_bets_192 : decode cX6_bets 192 = .ok (.aload_n 0, 1) := by decide +kernel
theorem dX6_bets_193 : decode cX6_bets 193 = .ok (.getfield 7, 3) := by decide +kernel
theorem dX6_bets_196 : decode cX6_bets 196 = .ok (.bipush 7, 2) := by decide +kernel
theorem dX6_bets_198 : decode cX6_bets 198 = .ok (.iaload, 1) := by decide +kernel
theorem dX6_bets_199 : decode cX6_bets 199 = .ok (.if_icmp .ge 78, 3) := by decide +kernel
theorem dX6_bets_202 : decode cX6_bets 202 = .ok (.aload_n 0, 1) := by decide +kernel
theorem dX6_bets_203 : decode cX6_bets 203 = .ok (.getfield 22, 3) := by decide +kernel
theorem dX6_bets_206 : decode cX6_bets 206 = .ok (.iload 6, 2) := by decide +kernel
theorem dX6_bets_208 : decode cX6_bets 208 = .ok (.iaload, 1) := by decide +kernel
theorem dX6_bets_209 : decode cX6_bets 209 = .ok (.iconst 1, 1) := by decide +kernel
theorem dX6_bets_210 : decode cX6_bets 210 = .ok (.if_icmp .ne 29, 3) := by decide +kernel
theorem dX6_bets_213 : decode cX6_bets 213 = .ok (.aload_n 0, 1) := by decide +kernel
theorem dX6_bets_214 : decode cX6_bets 214 = .ok (.getfield 25, 3) := by decide +kernel
theorem dX6_bets_217 : decode cX6_bets 217 = .ok (.iload 6, 2) := by decide +kernel
theorem dX6_bets_219 : decode cX6_bets 219 = .ok (.iaload, 1) := by decide +kernel
theorem dX6_bets_220 : decode cX6_bets 220 = .ok (.iload_n 1, 1) := by decide +kernel
theorem dX6_bets_221 : decode cX6_bets 221 = .ok (.if_icmp .ne 18, 3) := by decide +kernel
theorem dX6_bets_224 : decode cX6_bets 224 = .ok (.iload 4, 2) := by decide +kernel
theorem dX6_bets_226 : decode cX6_bets 226 = .ok (.aload_n 0, 1) := by decide +kernel
theorem dX6_bets_227 : decode cX6_bets 227 = .ok (.getfield 28, 3) := by decide +kernel
theorem dX6_bets_230 : decode cX6_bets 230 = .ok (.iload 6, 2) := by decide +kernel
theorem dX6_bets_232 : decode cX6_bets 232 = .ok (.iaload, 1) := by decide +kernel
theorem dX6_bets_233 : decode cX6_bets 233 = .ok (.imul, 1) := by decide +kernel
theorem dX6_bets_234 : decode cX6_bets 234 = .ok (.iload_n 3, 1) := by decide +kernel
theorem dX6_bets_235 : decode cX6_bets 235 = .ok (.idiv, 1) := by decide +kernel
theorem dX6_bets_236 : decode cX6_bets 236 = .ok (.goto 4, 3) := by decide +kernel
theorem dX6_bets_239 : decode cX6_bets 239 = .ok (.iconst 0, 1) := by decide +kernel
theorem dX6_bets_240 : decode cX6_bets 240 = .ok (.istore 7, 2) := by decide +kernel
theorem dX6_bets_242 : decode cX6_bets 242 = .ok (.iload 7, 2) := by decide +kernel
theorem dX6_bets_244 : decode cX6_bets 244 = .ok (.ifCond .le 27, 3) := by decide +kernel
theorem dX6_bets_247 : decode cX6_bets 247 = .ok (.iload 5, 2) := by decide +kernel
theorem dX6_bets_249 : decode cX6_bets 249 = .ok (.iload 7, 2) := by decide +kernel
theorem dX6_bets_251 : decode cX6_bets 251 = .ok (.isub, 1) := by decide +kernel
theorem dX6_bets_252 : decode cX6_bets 252 = .ok (.istore 5, 2) := by decide +kernel
theorem dX6_bets_254 : decode cX6_bets 254 = .ok (.aload_n 0, 1) := by decide +kernel
theorem dX6_bets_255 : decode cX6_bets 255 = .ok (.iload 6, 2) := by decide +kernel
theorem dX6_bets_257 : decode cX6_bets 257 = .ok (.iconst 2, 1) := by decide +kernel
theorem dX6_bets_258 : decode cX6_bets 258 = .ok (.iload 7, 2) := by decide +kernel
theorem dX6_bets_260 : decode cX6_bets 260 = .ok (.invokevirtual 94, 3) := by decide +kernel
theorem dX6_bets_263 : decode cX6_bets 263 = .ok (.aload_n 0, 1) := by decide +kernel
theorem dX6_bets_264 : decode cX6_bets 264 = .ok (.iload 6, 2) := by decide +kernel
theorem dX6_bets_266 : decode cX6_bets 266 = .ok (.iload 7, 2) := by decide +kernel
theorem dX6_bets_268 : decode cX6_bets 268 = .ok (.invokevirtual 100, 3) := by decide +kernel
theorem dX6_bets_271 : decode cX6_bets 271 = .ok (.iinc 6 1, 3) := by decide +kernel
theorem dX6_bets_274 : decode cX6_bets 274 = .ok (.goto (-84), 3) := by decide +kernel
theorem dX6_bets_277 : decode cX6_bets 277 = .ok (.aload_n 0, 1) := by decide +kernel
theorem dX6_bets_278 : decode cX6_bets 278 = .ok (.getfield 7, 3) := by decide +kernel
theorem dX6_bets_281 : decode cX6_bets 281 = .ok (.iconst 4, 1) := by decide +kernel
theorem dX6_bets_282 : decode cX6_bets 282 = .ok (.dup2, 1) := by decide +kernel
theorem dX6_bets_283 : decode cX6_bets 283 = .ok (.iaload, 1) := by decide +kernel
theorem dX6_bets_284 : decode cX6_bets 284 = .ok (.iload 5, 2) := by decide +kernel
theorem dX6_bets_286 : decode cX6_bets 286 = .ok (.iadd, 1) := by decide +kernel
theorem dX6_bets_287 : decode cX6_bets 287 = .ok (.iastore, 1) := by decide +kernel
theorem dX6_bets_288 : decode cX6_bets 288 = .ok (.aload_n 0, 1) := by decide +kernel
theorem dX6_bets_289 : decode cX6_bets 289 = .ok (.getfield 7, 3) := by decide +kernel
theorem dX6_bets_292 : decode cX6_bets 292 = .ok (.bipush 6, 2) := by decide +kernel
theorem dX6_bets_294 : decode cX6_bets 294 = .ok (.dup2, 1) := by decide +kernel
theorem dX6_bets_295 : decode cX6_bets 295 = .ok (.iaload, 1) := by decide +kernel
theorem dX6_bets_296 : decode cX6_bets 296 = .ok (.iconst 1, 1) := by decide +kernel
theorem dX6_bets_297 : decode cX6_bets 297 = .ok (.iadd, 1) := by decide +kernel
theorem dX6_bets_298 : decode cX6_bets 298 = .ok (.iastore, 1) := by decide +kernel
theorem dX6_bets_299 : decode cX6_bets 299 = .ok (.iload_n 2, 1) := by decide +kernel
theorem dX6_bets_300 : decode cX6_bets 300 = .ok (.ireturn, 1) := by decide +kernel
theorem dX6_learns_0 : decode cX6_learns 0 = .ok (.bipush 10, 2) := by decide +kernel
theorem dX6_learns_2 : decode cX6_learns 2 = .ok (.aload_n 0, 1) := by decide +kernel
theorem dX6_learns_3 : decode cX6_learns 3 = .ok (.iload_n 1, 1) := by decide +kernel
theorem dX6_learns_4 : decode cX6_learns 4 = .ok (.iload_n 2, 1) := by decide +kernel
theorem dX6_learns_5 : decode cX6_learns 5 = .ok (.invokevirtual 58, 3) := by decide +kernel
theorem dX6_learns_8 : decode cX6_learns 8 = .ok (.iadd, 1) := by decide +kernel
theorem dX6_learns_9 : decode cX6_learns 9 = .ok (.istore 4, 2) := by decide +kernel
theorem dX6_learns_11 : decode cX6_learns 11 = .ok (.aload_n 0, 1) := by decide +kernel
theorem dX6_learns_12 : decode cX6_learns 12 = .ok (.iload_n 1, 1) := by decide +kernel
theorem dX6_learns_13 : decode cX6_learns 13 = .ok (.iload 4, 2) := by decide +kernel
theorem dX6_learns_15 : decode cX6_learns 15 = .ok (.invokevirtual 46, 3) := by decide +kernel
theorem dX6_learns_18 : decode cX6_learns 18 = .ok (.istore 5, 2) := by decide +kernel
theorem dX6_learns_20 : decode cX6_learns 20 = .ok (.aload_n 0, 1) := by decide +kernel
theorem dX6_learns_21 : decode cX6_learns 21 = .ok (.iload_n 1, 1) := by decide +kernel
theorem dX6_learns_22 : decode cX6_learns 22 = .ok (.iload 4, 2) := by decide +kernel
theorem dX6_learns_24 : decode cX6_learns 24 = .ok (.iload_n 3, 1) := by decide +kernel
theorem dX6_learns_25 : decode cX6_learns 25 = .ok (.iconst 1, 1) := by decide +kernel
theorem dX6_learns_26 : decode cX6_learns 26 = .ok (.if_icmp .ne 20, 3) := by decide +kernel
theorem dX6_learns_29 : decode cX6_learns 29 = .ok (.iload 5, 2) := by decide +kernel
theorem dX6_learns_31 : decode cX6_learns 31 = .ok (.iconst 3, 1) := by decide +kernel
theorem dX6_learns_32 : decode cX6_learns 32 = .ok (.if_icmp .ge 10, 3) := by decide +kernel
theorem dX6_learns_35 : decode cX6_learns 35 = .ok (.iload 5, 2) := by decide +kernel
theorem dX6_learns_37 : decode cX6_learns 37 = .ok (.iconst 1, 1) := by decide +kernel
theorem dX6_learns_38 : decode cX6_learns 38 = .ok (.iadd, 1) := by decide +kernel
theorem dX6_learns_39 : decode cX6_learns 39 = .ok (.goto 20, 3) := by decide +kernel
theorem dX6_learns_42 : decode cX6_learns 42 = .ok (.iconst 3, 1) := by decide +kernel
theorem dX6_learns_43 : decode cX6_learns 43 = .ok (.goto 16, 3) := by decide +kernel
theorem dX6_learns_46 : decode cX6_learns 46 = .ok (.iload 5, 2) := by decide +kernel
theorem dX6_learns_48 : decode cX6_learns 48 = .ok (.ifCond .le 10, 3) := by decide +kernel
theorem dX6_learns_51 : decode cX6_learns 51 = .ok (.iload 5, 2) := by decide +kernel
theorem dX6_learns_53 : decode cX6_learns 53 = .ok (.iconst 1, 1) := by decide +kernel
theorem dX6_learns_54 : decode cX6_learns 54 = .ok (.isub, 1) := by decide +kernel
theorem dX6_learns_55 : decode cX6_learns 55 = .ok (.goto 4, 3) := by decide +kernel
theorem dX6_learns_58 : decode cX6_learns 58 = .ok (.iconst 0, 1) := by decide +kernel
theorem dX6_learns_59 : decode cX6_learns 59 = .ok (.invokevirtual 82, 3) := by decide +kernel
theorem dX6_learns_62 : decode cX6_learns 62 = .ok (.return_, 1) := by decide +kernel
theorem dX6_comes_0 : decode cX6_comes 0 = .ok (.iconst 0, 1) := by decide +kernel
theorem dX6_comes_1 : decode cX6_comes 1 = .ok (.istore_n 3, 1) := by decide +kernel
theorem dX6_comes_2 : decode cX6_comes 2 = .ok (.iload_n 3, 1) := by decide +kernel
theorem dX6_comes_3 : decode cX6_comes 3 = .ok (.aload_n 0, 1) := by decide +kernel
theorem dX6_comes_4 : decode cX6_comes 4 = .ok (.getfield 7, 3) := by decide +kernel
theorem dX6_comes_7 : decode cX6_comes 7 = .ok (.bipush 7, 2) := by decide +kernel
theorem dX6_comes_9 : decode cX6_comes 9 = .ok (.iaload, 1) := by decide +kernel
theorem dX6_comes_10 : decode cX6_comes 10 = .ok (.if_icmp .ge 64, 3) := by decide +kernel
theorem dX6_comes_13 : decode cX6_comes 13 = .ok (.aload_n 0, 1) := by decide +kernel
theorem dX6_comes_14 : decode cX6_comes 14 = .ok (.getfield 22, 3) := by decide +kernel
theorem dX6_comes_17 : decode cX6_comes 17 = .ok (.iload_n 3, 1) := by decide +kernel
theorem dX6_comes_18 : decode cX6_comes 18 = .ok (.aload_n 0, 1) := by decide +kernel
theorem dX6_comes_19 : decode cX6_comes 19 = .ok (.iload_n 3, 1) := by decide +kernel
theorem dX6_comes_20 : decode cX6_comes 20 = .ok (.invokevirtual 70, 3) := by decide +kernel
theorem dX6_comes_23 : decode cX6_comes 23 = .ok (.ifCond .eq 7, 3) := by decide +kernel
theorem dX6_comes_26 : decode cX6_comes 26 = .ok (.iconst 1, 1) := by decide +kernel
theorem dX6_comes_27 : decode cX6_comes 27 = .ok (.goto 4, 3) := by decide +kernel
theorem dX6_comes_30 : decode cX6_comes 30 = .ok (.iconst 0, 1) := by decide +kernel
theorem dX6_comes_31 : decode cX6_comes 31 = .ok (.iastore, 1) := by decide +kernel
theorem dX6_comes_32 : decode cX6_comes 32 = .ok (.aload_n 0, 1) := by decide +kernel
theorem dX6_comes_33 : decode cX6_comes 33 = .ok (.getfield 25, 3) := by decide +kernel
theorem dX6_comes_36 : decode cX6_comes 36 = .ok (.iload_n 3, 1) := by decide +kernel
theorem dX6_comes_37 : decode cX6_comes 37 = .ok (.aload_n 0, 1) := by decide +kernel
theorem dX6_comes_38 : decode cX6_comes 38 = .ok (.iload_n 3, 1) := by decide +kernel
theorem dX6_comes_39 : decode cX6_comes 39 = .ok (.iload_n 1, 1) := by decide +kernel
theorem dX6_comes_40 : decode cX6_comes 40 = .ok (.invokevirtual 104, 3) := by decide +kernel
theorem dX6_comes_43 : decode cX6_comes 43 = .ok (.iastore, 1) := by decide +kernel
theorem dX6_comes_44 : decode cX6_comes 44 = .ok (.aload_n 0, 1) := by decide +kernel
theorem dX6_comes_45 : decode cX6_comes 45 = .ok (.getfield 28, 3) := by decide +kernel
theorem dX6_comes_48 : decode cX6_comes 48 = .ok (.iload_n 3, 1) := by decide +kernel
theorem dX6_comes_49 : decode cX6_comes 49 = .ok (.aload_n 0, 1) := by decide +kernel
theorem dX6_comes_50 : decode cX6_comes 50 = .ok (.iload_n 3, 1) := by decide +kernel
theorem dX6_comes_51 : decode cX6_comes 51 = .ok (.iload_n 1, 1) := by decide +kernel
theorem dX6_comes_52 : decode cX6_comes 52 = .ok (.invokevirtual 107, 3) := by decide +kernel
theorem dX6_comes_55 : decode cX6_comes 55 = .ok (.iastore, 1) := by decide +kernel
theorem dX6_comes_56 : decode cX6_comes 56 = .ok (.aload_n 0, 1) := by decide +kernel
theorem dX6_comes_57 : decode cX6_comes 57 = .ok (.getfield 31, 3) := by decide +kernel
theorem dX6_comes_60 : decode cX6_comes 60 = .ok (.iload_n 3, 1) := by decide +kernel
theorem dX6_comes_61 : decode cX6_comes 61 = .ok (.aload_n 0, 1) := by decide +kernel
theorem dX6_comes_62 : decode cX6_comes 62 = .ok (.iload_n 3, 1) := by decide +kernel
theorem dX6_comes_63 : decode cX6_comes 63 = .ok (.iconst 2, 1) := by decide +kernel
theorem dX6_comes_64 : decode cX6_comes 64 = .ok (.invokevirtual 46, 3) := by decide +kernel
theorem dX6_comes_67 : decode cX6_comes 67 = .ok (.iastore, 1) := by decide +kernel
theorem dX6_comes_68 : decode cX6_comes 68 = .ok (.iinc 3 1, 3) := by decide +kernel
theorem dX6_comes_71 : decode cX6_comes 71 = .ok (.goto (-69), 3) := by decide +kernel
theorem dX6_comes_74 : decode cX6_comes 74 = .ok (.aload_n 0, 1) := by decide +kernel
theorem dX6_comes_75 : decode cX6_comes 75 = .ok (.iload_n 2, 1) := by decide +kernel
theorem dX6_comes_76 : decode cX6_comes 76 = .ok (.invokevirtual 110, 3) := by decide +kernel
theorem dX6_comes_79 : decode cX6_comes 79 = .ok (.istore_n 3, 1) := by decide +kernel
theorem dX6_comes_80 : decode cX6_comes 80 = .ok (.iconst 0, 1) := by decide +kernel
theorem dX6_comes_81 : decode cX6_comes 81 = .ok (.istore 4, 2) := by decide +kernel
theorem dX6_comes_83 : decode cX6_comes 83 = .ok (.iload 4, 2) := by decide +kernel
theorem dX6_comes_85 : decode cX6_comes 85 = .ok (.aload_n 0, 1) := by decide +kernel
theorem dX6_comes_86 : decode cX6_comes 86 = .ok (.getfield 7, 3) := by decide +kernel
theorem dX6_comes_89 : decode cX6_comes 89 = .ok (.bipush 7, 2) := by decide +kernel
theorem dX6_comes_91 : decode cX6_comes 91 = .ok (.iaload, 1) := by decide +kernel
theorem dX6_comes_92 : decode cX6_comes 92 = .ok (.if_icmp .ge 114, 3) := by decide +kernel
theorem dX6_comes_95 : decode cX6_comes 95 = .ok (.aload_n 0, 1) := by decide +kernel
theorem dX6_comes_96 : decode cX6_comes 96 = .ok (.getfield 22, 3) := by decide +kernel
theorem dX6_comes_99 : decode cX6_comes 99 = .ok (.iload 4, 2) := by decide +kernel
theorem dX6_comes_101 : decode cX6_comes 101 = .ok (.iaload, 1) := by decide +kernel
theorem dX6_comes_102 : decode cX6_comes 102 = .ok (.iconst 1, 1) := by decide +kernel
theorem dX6_comes_103 : decode cX6_comes 103 = .ok (.if_icmp .ne 64, 3) := by decide +kernel
theorem dX6_comes_106 : decode cX6_comes 106 = .ok (.aload_n 0, 1) := by decide +kernel
theorem dX6_comes_107 : decode cX6_comes 107 = .ok (.getfield 25, 3) := by decide +kernel
theorem dX6_comes_110 : decode cX6_comes 110 = .ok (.iload 4, 2) := by decide +kernel
theorem dX6_comes_112 : decode cX6_comes 112 = .ok (.iaload, 1) := by decide +kernel
theorem dX6_comes_113 : decode cX6_comes 113 = .ok (.iload_n 2, 1) := by decide +kernel
theorem dX6_comes_114 : decode cX6_comes 114 = .ok (.if_icmp .ne 7, 3) := by decide +kernel
theorem dX6_comes_117 : decode cX6_comes 117 = .ok (.iconst 1, 1) := by decide +kernel
theorem dX6_comes_118 : decode cX6_comes 118 = .ok (.goto 4, 3) := by decide +kernel
theorem dX6_comes_121 : decode cX6_comes 121 = .ok (.iconst 0, 1) := by decide +kernel
theorem dX6_comes_122 : decode cX6_comes 122 = .ok (.istore 5, 2) := by decide +kernel
theorem dX6_comes_124 : decode cX6_comes 124 = .ok (.aload_n 0, 1) := by decide +kernel
theorem dX6_comes_125 : decode cX6_comes 125 = .ok (.iload 4, 2) := by decide +kernel
theorem dX6_comes_127 : decode cX6_comes 127 = .ok (.iload 5, 2) := by decide +kernel
theorem dX6_comes_129 : decode cX6_comes 129 = .ok (.iconst 1, 1) := by decide +kernel
theorem dX6_comes_130 : decode cX6_comes 130 = .ok (.if_icmp .ne 7, 3) := by decide +kernel
theorem dX6_comes_133 : decode cX6_comes 133 = .ok (.iconst 5, 1) := by decide +kernel
theorem dX6_comes_134 : decode cX6_comes 134 = .ok (.goto 5, 3) := by decide +kernel
theorem dX6_comes_137 : decode cX6_comes 137 = .ok (.bipush 6, 2) := by decide +kernel
theorem dX6_comes_139 : decode cX6_comes 139 = .ok (.iconst 1, 1) := by decide +kernel
theorem dX6_comes_140 : decode cX6_comes 140 = .ok (.invokevirtual 94, 3) := by decide +kernel
theorem dX6_comes_143 : decode cX6_comes 143 = .ok (.aload_n 0, 1) := by decide +kernel
theorem dX6_comes_144 : decode cX6_comes 144 = .ok (.iload 4, 2) := by decide +kernel
theorem dX6_comes_146 : decode cX6_comes 146 = .ok (.bipush 7, 2) := by decide +kernel
theorem dX6_comes_148 : decode cX6_comes 148 = .ok (.iconst 2, 1) := by decide +kernel
theorem dX6_comes_149 : decode cX6_comes 149 = .ok (.aload_n 0, 1) := by decide +kernel
theorem dX6_comes_150 : decode cX6_comes 150 = .ok (.iload 4, 2) := by decide +kernel
theorem dX6_comes_152 : decode cX6_comes 152 = .ok (.bipush 7, 2) := by decide +kernel
theorem dX6_comes_154 : decode cX6_comes 154 = .ok (.invokevirtual 46, 3) := by decide +kernel
theorem dX6_comes_157 : decode cX6_comes 157 = .ok (.imul, 1) := by decide +kernel
theorem dX6_comes_158 : decode cX6_comes 158 = .ok (.ldc 113, 2) := by decide +kernel
theorem dX6_comes_160 : decode cX6_comes 160 = .ok (.irem, 1) := by decide +kernel
theorem dX6_comes_161 : decode cX6_comes 161 = .ok (.iload 5, 2) := by decide +kernel
theorem dX6_comes_163 : decode cX6_comes 163 = .ok (.iadd, 1) := by decide +kernel
theorem dX6_comes_164 : decode cX6_comes 164 = .ok (.invokevirtual 82, 3) := by decide +kernel
theorem dX6_comes_167 : decode cX6_comes 167 = .ok (.aload_n 0, 1) := by decide +kernel
theorem dX6_comes_168 : decode cX6_comes 168 = .ok (.iload 4, 2) := by decide +kernel
theorem dX6_comes_170 : decode cX6_comes 170 = .ok (.bipush 8, 2) := by decide +kernel
theorem dX6_comes_172 : decode cX6_comes 172 = .ok (.aload_n 0, 1) := by decide +kernel
theorem dX6_comes_173 : decode cX6_comes 173 = .ok (.getfield 31, 3) := by decide +kernel
theorem dX6_comes_176 : decode cX6_comes 176 = .ok (.iload 4, 2) := by decide +kernel
theorem dX6_comes_178 : decode cX6_comes 178 = .ok (.iaload, 1) := by decide +kernel
theorem dX6_comes_179 : decode cX6_comes 179 = .ok (.ifCond .le 17, 3) := by decide +kernel
theorem dX6_comes_182 : decode cX6_comes 182 = .ok (.aload_n 0, 1) := by decide +kernel
theorem dX6_comes_183 : decode cX6_comes 183 = .ok (.iload 4, 2) := by decide +kernel
theorem dX6_comes_185 : decode cX6_comes 185 = .ok (.iconst 2, 1) := by decide +kernel
theorem dX6_comes_186 : decode cX6_comes 186 = .ok (.invokevirtual 46, 3) := by decide +kernel
theorem dX6_comes_189 : decode cX6_comes 189 = .ok (.ifCond .ne 7, 3) := by decide +kernel
theorem dX6_comes_192 : decode cX6_comes 192 = .ok (.iconst 1, 1) := by decide +kernel
theorem dX6_comes_193 : decode cX6_comes 193 = .ok (.goto 4, 3) := by decide +kernel
theorem dX6_comes_196 : decode cX6_comes 196 = .ok (.iconst 0, 1) := by decide +kernel
theorem dX6_comes_197 : decode cX6_comes 197 = .ok (.invokevirtual 94, 3) := by decide +kernel
theorem dX6_comes_200 : decode cX6_comes 200 = .ok (.iinc 4 1, 3) := by decide +kernel
theorem dX6_comes_203 : decode cX6_comes 203 = .ok (.goto (-120), 3) := by decide +kernel
theorem dX6_comes_206 : decode cX6_comes 206 = .ok (.iconst 0, 1) := by decide +kernel
theorem dX6_comes_207 : decode cX6_comes 207 = .ok (.istore 4, 2) := by decide +kernel
theorem dX6_comes_209 : decode cX6_comes 209 = .ok (.iload 4, 2) := by decide +kernel
theorem dX6_comes_211 : decode cX6_comes 211 = .ok (.aload_n 0, 1) := by decide +kernel
theorem dX6_comes_212 : decode cX6_comes 212 = .ok (.getfield 7, 3) := by decide +kernel
theorem dX6_comes_215 : decode cX6_comes 215 = .ok (.bipush 7, 2) := by decide +kernel
theorem dX6_comes_217 : decode cX6_comes 217 = .ok (.iaload, 1) := by decide +kernel
theorem dX6_comes_218 : decode cX6_comes 218 = .ok (.if_icmp .ge 26, 3) := by decide +kernel
theorem dX6_comes_221 : decode cX6_comes 221 = .ok (.aload_n 0, 1) := by decide +kernel
theorem dX6_comes_222 : decode cX6_comes 222 = .ok (.iload 4, 2) := by decide +kernel
theorem dX6_comes_224 : decode cX6_comes 224 = .ok (.invokevirtual 50, 3) := by decide +kernel
theorem dX6_comes_227 : decode cX6_comes 227 = .ok (.ifCond .eq 11, 3) := by decide +kernel
theorem dX6_comes_230 : decode cX6_comes 230 = .ok (.aload_n 0, 1) := by decide +kernel
theorem dX6_comes_231 : decode cX6_comes 231 = .ok (.iload 4, 2) := by decide +kernel
theorem dX6_comes_233 : decode cX6_comes 233 = .ok (.iload_n 1, 1) := by decide +kernel
theorem dX6_comes_234 : decode cX6_comes 234 = .ok (.iload_n 2, 1) := by decide +kernel
theorem dX6_comes_235 : decode cX6_comes 235 = .ok (.invokevirtual 114, 3) := by decide +kernel
theorem dX6_comes_238 : decode cX6_comes 238 = .ok (.iinc 4 1, 3) := by decide +kernel
theorem dX6_comes_241 : decode cX6_comes 241 = .ok (.goto (-32), 3) := by decide +kernel
theorem dX6_comes_244 : decode cX6_comes 244 = .ok (.aload_n 0, 1) := by decide +kernel
theorem dX6_comes_245 : decode cX6_comes 245 = .ok (.getfield 7, 3) := by decide +kernel
theorem dX6_comes_248 : decode cX6_comes 248 = .ok (.iconst 3, 1) := by decide +kernel
theorem dX6_comes_249 : decode cX6_comes 249 = .ok (.iconst 2, 1) := by decide +kernel
theorem dX6_comes_250 : decode cX6_comes 250 = .ok (.aload_n 0, 1) := by decide +kernel
theorem dX6_comes_251 : decode cX6_comes 251 = .ok (.getfield 7, 3) := by decide +kernel
theorem dX6_comes_254 : decode cX6_comes 254 = .ok (.iconst 3, 1) := by decide +kernel
theorem dX6_comes_255 : decode cX6_comes 255 = .ok (.iaload, 1) := by decide +kernel
theorem dX6_comes_256 : decode cX6_comes 256 = .ok (.imul, 1) := by decide +kernel
theorem dX6_comes_257 : decode cX6_comes 257 = .ok (.iload_n 2, 1) := by decide +kernel
theorem dX6_comes_258 : decode cX6_comes 258 = .ok (.iadd, 1) := by decide +kernel
theorem dX6_comes_259 : decode cX6_comes 259 = .ok (.sipush 256, 3) := by decide +kernel
theorem dX6_comes_262 : decode cX6_comes 262 = .ok (.irem, 1) := by decide +kernel
theorem dX6_comes_263 : decode cX6_comes 263 = .ok (.iastore, 1) := by decide +kernel
theorem dX6_comes_264 : decode cX6_comes 264 = .ok (.aload_n 0, 1) := by decide +kernel
theorem dX6_comes_265 : decode cX6_comes 265 = .ok (.getfield 7, 3) := by decide +kernel
theorem dX6_comes_268 : decode cX6_comes 268 = .ok (.bipush 9, 2) := by decide +kernel
theorem dX6_comes_270 : decode cX6_comes 270 = .ok (.iload_n 1, 1) := by decide +kernel
theorem dX6_comes_271 : decode cX6_comes 271 = .ok (.iadd, 1) := by decide +kernel
theorem dX6_comes_272 : decode cX6_comes 272 = .ok (.iconst 1, 1) := by decide +kernel
theorem dX6_comes_273 : decode cX6_comes 273 = .ok (.iastore, 1) := by decide +kernel
theorem dX6_comes_274 : decode cX6_comes 274 = .ok (.aload_n 0, 1) := by decide +kernel
theorem dX6_comes_275 : decode cX6_comes 275 = .ok (.getfield 7, 3) := by decide +kernel
theorem dX6_comes_278 : decode cX6_comes 278 = .ok (.iconst 5, 1) := by decide +kernel
theorem dX6_comes_279 : decode cX6_comes 279 = .ok (.dup2, 1) := by decide +kernel
theorem dX6_comes_280 : decode cX6_comes 280 = .ok (.iaload, 1) := by decide +kernel
theorem dX6_comes_281 : decode cX6_comes 281 = .ok (.iconst 1, 1) := by decide +kernel
theorem dX6_comes_282 : decode cX6_comes 282 = .ok (.iadd, 1) := by decide +kernel
theorem dX6_comes_283 : decode cX6_comes 283 = .ok (.iastore, 1) := by decide +kernel
theorem dX6_comes_284 : decode cX6_comes 284 = .ok (.iload_n 3, 1) := by decide +kernel
theorem dX6_comes_285 : decode cX6_comes 285 = .ok (.ireturn, 1) := by decide +kernel
theorem dX6_branch_0 : decode cX6_branch 0 = .ok (.iload_n 1, 1) := by decide +kernel
theorem dX6_branch_1 : decode cX6_branch 1 = .ok (.invokestatic 117, 3) := by decide +kernel
theorem dX6_branch_4 : decode cX6_branch 4 = .ok (.ifCond .eq 10, 3) := by decide +kernel
theorem dX6_branch_7 : decode cX6_branch 7 = .ok (.iload_n 2, 1) := by decide +kernel
theorem dX6_branch_8 : decode cX6_branch 8 = .ok (.invokestatic 120, 3) := by decide +kernel
theorem dX6_branch_11 : decode cX6_branch 11 = .ok (.ifCond .ne 6, 3) := by decide +kernel
theorem dX6_branch_14 : decode cX6_branch 14 = .ok (.ldc 77, 2) := by decide +kernel
theorem dX6_branch_16 : decode cX6_branch 16 = .ok (.ireturn, 1) := by decide +kernel
theorem dX6_branch_17 : decode cX6_branch 17 = .ok (.aload_n 0, 1) := by decide +kernel
theorem dX6_branch_18 : decode cX6_branch 18 = .ok (.invokevirtual 78, 3) := by decide +kernel
theorem dX6_branch_21 : decode cX6_branch 21 = .ok (.aload_n 0, 1) := by decide +kernel
theorem dX6_branch_22 : decode cX6_branch 22 = .ok (.iload_n 1, 1) := by decide +kernel
theorem dX6_branch_23 : decode cX6_branch 23 = .ok (.iload_n 2, 1) := by decide +kernel
theorem dX6_branch_24 : decode cX6_branch 24 = .ok (.invokevirtual 123, 3) := by decide +kernel
theorem dX6_branch_27 : decode cX6_branch 27 = .ok (.ireturn, 1) := by decide +kernel
theorem dX6_owes_0 : decode cX6_owes 0 = .ok (.iconst 0, 1) := by decide +kernel
theorem dX6_owes_1 : decode cX6_owes 1 = .ok (.istore_n 3, 1) := by decide +kernel
theorem dX6_owes_2 : decode cX6_owes 2 = .ok (.iconst 0, 1) := by decide +kernel
theorem dX6_owes_3 : decode cX6_owes 3 = .ok (.istore 4, 2) := by decide +kernel
theorem dX6_owes_5 : decode cX6_owes 5 = .ok (.iload 4, 2) := by decide +kernel
theorem dX6_owes_7 : decode cX6_owes 7 = .ok (.aload_n 0, 1) := by decide +kernel
theorem dX6_owes_8 : decode cX6_owes 8 = .ok (.getfield 7, 3) := by decide +kernel
theorem dX6_owes_11 : decode cX6_owes 11 = .ok (.bipush 8, 2) := by decide +kernel
theorem dX6_owes_13 : decode cX6_owes 13 = .ok (.iaload, 1) := by decide +kernel
theorem dX6_owes_14 : decode cX6_owes 14 = .ok (.if_icmp .ge 34, 3) := by decide +kernel
theorem dX6_owes_17 : decode cX6_owes 17 = .ok (.iload_n 3, 1) := by decide +kernel
theorem dX6_owes_18 : decode cX6_owes 18 = .ok (.aload_n 0, 1) := by decide +kernel
theorem dX6_owes_19 : decode cX6_owes 19 = .ok (.iload 4, 2) := by decide +kernel
theorem dX6_owes_21 : decode cX6_owes 21 = .ok (.iload_n 2, 1) := by decide +kernel
theorem dX6_owes_22 : decode cX6_owes 22 = .ok (.invokevirtual 97, 3) := by decide +kernel
theorem dX6_owes_25 : decode cX6_owes 25 = .ok (.iload_n 1, 1) := by decide +kernel
theorem dX6_owes_26 : decode cX6_owes 26 = .ok (.if_icmp .ne 13, 3) := by decide +kernel
theorem dX6_owes_29 : decode cX6_owes 29 = .ok (.aload_n 0, 1) := by decide +kernel
theorem dX6_owes_30 : decode cX6_owes 30 = .ok (.iload 4, 2) := by decide +kernel
theorem dX6_owes_32 : decode cX6_owes 32 = .ok (.iconst 2, 1) := by decide +kernel
theorem dX6_owes_33 : decode cX6_owes 33 = .ok (.invokevirtual 97, 3) := by decide +kernel
theorem dX6_owes_36 : decode cX6_owes 36 = .ok (.goto 4, 3) := by decide +kernel
theorem dX6_owes_39 : decode cX6_owes 39 = .ok (.iconst 0, 1) := by decide +kernel
theorem dX6_owes_40 : decode cX6_owes 40 = .ok (.iadd, 1) := by decide +kernel
theorem dX6_owes_41 : decode cX6_owes 41 = .ok (.istore_n 3, 1) := by decide +kernel
theorem dX6_owes_42 : decode cX6_owes 42 = .ok (.iinc 4 1, 3) := by decide +kernel
theorem dX6_owes_45 : decode cX6_owes 45 = .ok (.goto (-40), 3) := by decide +kernel
theorem dX6_owes_48 : decode cX6_owes 48 = .ok (.iload_n 3, 1) := by decide +kernel
theorem dX6_owes_49 : decode cX6_owes 49 = .ok (.ireturn, 1) := by decide +kernel
theorem dX6_oracleOf_0 : decode cX6_oracleOf 0 = .ok (.aload_n 0, 1) := by decide +kernel
theorem dX6_oracleOf_1 : decode cX6_oracleOf 1 = .ok (.iload_n 1, 1) := by decide +kernel
theorem dX6_oracleOf_2 : decode cX6_oracleOf 2 = .ok (.invokevirtual 86, 3) := by decide +kernel
theorem dX6_oracleOf_5 : decode cX6_oracleOf 5 = .ok (.ifCond .eq 13, 3) := by decide +kernel
theorem dX6_oracleOf_8 : decode cX6_oracleOf 8 = .ok (.iload_n 2, 1) := by decide +kernel
theorem dX6_oracleOf_9 : decode cX6_oracleOf 9 = .ok (.iconst 0, 1) := by decide +kernel
theorem dX6_oracleOf_10 : decode cX6_oracleOf 10 = .ok (.bipush 10, 2) := by decide +kernel
theorem dX6_oracleOf_12 : decode cX6_oracleOf 12 = .ok (.invokestatic 42, 3) := by decide +kernel
theorem dX6_oracleOf_15 : decode cX6_oracleOf 15 = .ok (.ifCond .ne 6, 3) := by decide +kernel
theorem dX6_oracleOf_18 : decode cX6_oracleOf 18 = .ok (.ldc 77, 2) := by decide +kernel
theorem dX6_oracleOf_20 : decode cX6_oracleOf 20 = .ok (.ireturn, 1) := by decide +kernel
theorem dX6_oracleOf_21 : decode cX6_oracleOf 21 = .ok (.iload_n 2, 1) := by decide +kernel
theorem dX6_oracleOf_22 : decode cX6_oracleOf 22 = .ok (.bipush 9, 2) := by decide +kernel
theorem dX6_oracleOf_24 : decode cX6_oracleOf 24 = .ok (.if_icmp .eq 9, 3) := by decide +kernel
theorem dX6_oracleOf_27 : decode cX6_oracleOf 27 = .ok (.iload_n 2, 1) := by decide +kernel
theorem dX6_oracleOf_28 : decode cX6_oracleOf 28 = .ok (.bipush 10, 2) := by decide +kernel
theorem dX6_oracleOf_30 : decode cX6_oracleOf 30 = .ok (.if_icmp .ne 20, 3) := by decide +kernel
theorem dX6_oracleOf_33 : decode cX6_oracleOf 33 = .ok (.aload_n 0, 1) := by decide +kernel
theorem dX6_oracleOf_34 : decode cX6_oracleOf 34 = .ok (.iload_n 1, 1) := by decide +kernel
theorem dX6_oracleOf_35 : decode cX6_oracleOf 35 = .ok (.iload_n 2, 1) := by decide +kernel
theorem dX6_oracleOf_36 : decode cX6_oracleOf 36 = .ok (.bipush 9, 2) := by decide +kernel
theorem dX6_oracleOf_38 : decode cX6_oracleOf 38 = .ok (.if_icmp .ne 7, 3) := by decide +kernel
theorem dX6_oracleOf_41 : decode cX6_oracleOf 41 = .ok (.iconst 1, 1) := by decide +kernel
theorem dX6_oracleOf_42 : decode cX6_oracleOf 42 = .ok (.goto 4, 3) := by decide +kernel
theorem dX6_oracleOf_45 : decode cX6_oracleOf 45 = .ok (.iconst 0, 1) := by decide +kernel
theorem dX6_oracleOf_46 : decode cX6_oracleOf 46 = .ok (.invokevirtual 126, 3) := by decide +kernel
theorem dX6_oracleOf_49 : decode cX6_oracleOf 49 = .ok (.ireturn, 1) := by decide +kernel
theorem dX6_oracleOf_50 : decode cX6_oracleOf 50 = .ok (.iload_n 2, 1) := by decide +kernel
theorem dX6_oracleOf_51 : decode cX6_oracleOf 51 = .ok (.iconst 3, 1) := by decide +kernel
theorem dX6_oracleOf_52 : decode cX6_oracleOf 52 = .ok (.if_icmp .eq 8, 3) := by decide +kernel
theorem dX6_oracleOf_55 : decode cX6_oracleOf 55 = .ok (.iload_n 2, 1) := by decide +kernel
theorem dX6_oracleOf_56 : decode cX6_oracleOf 56 = .ok (.iconst 4, 1) := by decide +kernel
theorem dX6_oracleOf_57 : decode cX6_oracleOf 57 = .ok (.if_icmp .ne 16, 3) := by decide +kernel
theorem dX6_oracleOf_60 : decode cX6_oracleOf 60 = .ok (.aload_n 0, 1) := by decide +kernel
theorem dX6_oracleOf_61 : decode cX6_oracleOf 61 = .ok (.iload_n 1, 1) := by decide +kernel
theorem dX6_oracleOf_62 : decode cX6_oracleOf 62 = .ok (.invokevirtual 61, 3) := by decide +kernel
theorem dX6_oracleOf_65 : decode cX6_oracleOf 65 = .ok (.ifCond .ne 8, 3) := by decide +kernel
theorem dX6_oracleOf_68 : decode cX6_oracleOf 68 = .ok (.ldc 129, 2) := by decide +kernel
theorem dX6_oracleOf_70 : decode cX6_oracleOf 70 = .ok (.goto 9, 3) := by decide +kernel
theorem dX6_oracleOf_73 : decode cX6_oracleOf 73 = .ok (.aload_n 0, 1) := by decide +kernel
theorem dX6_oracleOf_74 : decode cX6_oracleOf 74 = .ok (.iload_n 1, 1) := by decide +kernel
theorem dX6_oracleOf_75 : decode cX6_oracleOf 75 = .ok (.iload_n 2, 1) := by decide +kernel
theorem dX6_oracleOf_76 : decode cX6_oracleOf 76 = .ok (.invokevirtual 46, 3) := by decide +kernel
theorem dX6_oracleOf_79 : decode cX6_oracleOf 79 = .ok (.ireturn, 1) := by decide +kernel
theorem dX6_counter_0 : decode cX6_counter 0 = .ok (.aload_n 0, 1) := by decide +kernel
theorem dX6_counter_1 : decode cX6_counter 1 = .ok (.iload_n 1, 1) := by decide +kernel
theorem dX6_counter_2 : decode cX6_counter 2 = .ok (.invokevirtual 86, 3) := by decide +kernel
theorem dX6_counter_5 : decode cX6_counter 5 = .ok (.ifCond .eq 7, 3) := by decide +kernel
theorem dX6_counter_8 : decode cX6_counter 8 = .ok (.iload_n 2, 1) := by decide +kernel
theorem dX6_counter_9 : decode cX6_counter 9 = .ok (.ifCond .ge 6, 3) := by decide +kernel
theorem dX6_counter_12 : decode cX6_counter 12 = .ok (.ldc 77, 2) := by decide +kernel
theorem dX6_counter_14 : decode cX6_counter 14 = .ok (.ireturn, 1) := by decide +kernel
theorem dX6_counter_15 : decode cX6_counter 15 = .ok (.iload_n 2, 1) := by decide +kernel
theorem dX6_counter_16 : decode cX6_counter 16 = .ok (.aload_n 0, 1) := by decide +kernel
theorem dX6_counter_17 : decode cX6_counter 17 = .ok (.iload_n 1, 1) := by decide +kernel
theorem dX6_counter_18 : decode cX6_counter 18 = .ok (.invokevirtual 54, 3) := by decide +kernel
theorem dX6_counter_21 : decode cX6_counter 21 = .ok (.if_icmp .ge 15, 3) := by decide +kernel
theorem dX6_counter_24 : decode cX6_counter 24 = .ok (.aload_n 0, 1) := by decide +kernel
theorem dX6_counter_25 : decode cX6_counter 25 = .ok (.iload_n 1, 1) := by decide +kernel
theorem dX6_counter_26 : decode cX6_counter 26 = .ok (.bipush 10, 2) := by decide +kernel
theorem dX6_counter_28 : decode cX6_counter 28 = .ok (.iload_n 2, 1) := by decide +kernel
theorem dX6_counter_29 : decode cX6_counter 29 = .ok (.iadd, 1) := by decide +kernel
theorem dX6_counter_30 : decode cX6_counter 30 = .ok (.invokevirtual 46, 3) := by decide +kernel
theorem dX6_counter_33 : decode cX6_counter 33 = .ok (.goto 5, 3) := by decide +kernel
theorem dX6_counter_36 : decode cX6_counter 36 = .ok (.ldc 129, 2) := by decide +kernel
theorem dX6_counter_38 : decode cX6_counter 38 = .ok (.ireturn, 1) := by decide +kernel
theorem dX6_loanOf_0 : decode cX6_loanOf 0 = .ok (.iload_n 1, 1) := by decide +kernel
theorem dX6_loanOf_1 : decode cX6_loanOf 1 = .ok (.iconst 0, 1) := by decide +kernel
theorem dX6_loanOf_2 : decode cX6_loanOf 2 = .ok (.aload_n 0, 1) := by decide +kernel
theorem dX6_loanOf_3 : decode cX6_loanOf 3 = .ok (.getfield 7, 3) := by decide +kernel
theorem dX6_loanOf_6 : decode cX6_loanOf 6 = .ok (.bipush 8, 2) := by decide +kernel
theorem dX6_loanOf_8 : decode cX6_loanOf 8 = .ok (.iaload, 1) := by decide +kernel
theorem dX6_loanOf_9 : decode cX6_loanOf 9 = .ok (.iconst 1, 1) := by decide +kernel
theorem dX6_loanOf_10 : decode cX6_loanOf 10 = .ok (.isub, 1) := by decide +kernel
theorem dX6_loanOf_11 : decode cX6_loanOf 11 = .ok (.invokestatic 42, 3) := by decide +kernel
theorem dX6_loanOf_14 : decode cX6_loanOf 14 = .ok (.ifCond .eq 21, 3) := by decide +kernel
theorem dX6_loanOf_17 : decode cX6_loanOf 17 = .ok (.iload_n 2, 1) := by decide +kernel
theorem dX6_loanOf_18 : decode cX6_loanOf 18 = .ok (.iconst 0, 1) := by decide +kernel
theorem dX6_loanOf_19 : decode cX6_loanOf 19 = .ok (.iconst 2, 1) := by decide +kernel
theorem dX6_loanOf_20 : decode cX6_loanOf 20 = .ok (.invokestatic 42, 3) := by decide +kernel
theorem dX6_loanOf_23 : decode cX6_loanOf 23 = .ok (.ifCond .eq 12, 3) := by decide +kernel
theorem dX6_loanOf_26 : decode cX6_loanOf 26 = .ok (.aload_n 0, 1) := by decide +kernel
theorem dX6_loanOf_27 : decode cX6_loanOf 27 = .ok (.iload_n 1, 1) := by decide +kernel
theorem dX6_loanOf_28 : decode cX6_loanOf 28 = .ok (.iload_n 2, 1) := by decide +kernel
theorem dX6_loanOf_29 : decode cX6_loanOf 29 = .ok (.invokevirtual 97, 3) := by decide +kernel
theorem dX6_loanOf_32 : decode cX6_loanOf 32 = .ok (.goto 5, 3) := by decide +kernel
theorem dX6_loanOf_35 : decode cX6_loanOf 35 = .ok (.ldc 77, 2) := by decide +kernel
theorem dX6_loanOf_37 : decode cX6_loanOf 37 = .ok (.ireturn, 1) := by decide +kernel
theorem dX6_aliases_0 : decode cX6_aliases 0 = .ok (.aload_n 0, 1) := by decide +kernel
theorem dX6_aliases_1 : decode cX6_aliases 1 = .ok (.iload_n 1, 1) := by decide +kernel
theorem dX6_aliases_2 : decode cX6_aliases 2 = .ok (.invokevirtual 86, 3) := by decide +kernel
theorem dX6_aliases_5 : decode cX6_aliases 5 = .ok (.ifCond .eq 10, 3) := by decide +kernel
theorem dX6_aliases_8 : decode cX6_aliases 8 = .ok (.iload_n 2, 1) := by decide +kernel
theorem dX6_aliases_9 : decode cX6_aliases 9 = .ok (.invokestatic 117, 3) := by decide +kernel
theorem dX6_aliases_12 : decode cX6_aliases 12 = .ok (.ifCond .ne 6, 3) := by decide +kernel
theorem dX6_aliases_15 : decode cX6_aliases 15 = .ok (.ldc 77, 2) := by decide +kernel
theorem dX6_aliases_17 : decode cX6_aliases 17 = .ok (.ireturn, 1) := by decide +kernel
theorem dX6_aliases_18 : decode cX6_aliases 18 = .ok (.aload_n 0, 1) := by decide +kernel
theorem dX6_aliases_19 : decode cX6_aliases 19 = .ok (.iload_n 1, 1) := by decide +kernel
theorem dX6_aliases_20 : decode cX6_aliases 20 = .ok (.invokevirtual 50, 3) := by decide +kernel
theorem dX6_aliases_23 : decode cX6_aliases 23 = .ok (.ifCond .ne 6, 3) := by decide +kernel
theorem dX6_aliases_26 : decode cX6_aliases 26 = .ok (.ldc 129, 2) := by decide +kernel
theorem dX6_aliases_28 : decode cX6_aliases 28 = .ok (.ireturn, 1) := by decide +kernel
theorem dX6_aliases_29 : decode cX6_aliases 29 = .ok (.iconst 0, 1) := by decide +kernel
theorem dX6_aliases_30 : decode cX6_aliases 30 = .ok (.istore_n 3, 1) := by decide +kernel
theorem dX6_aliases_31 : decode cX6_aliases 31 = .ok (.iconst 0, 1) := by decide +kernel
theorem dX6_aliases_32 : decode cX6_aliases 32 = .ok (.istore 4, 2) := by decide +kernel
theorem dX6_aliases_34 : decode cX6_aliases 34 = .ok (.iload 4, 2) := by decide +kernel
theorem dX6_aliases_36 : decode cX6_aliases 36 = .ok (.bipush 64, 2) := by decide +kernel
theorem dX6_aliases_38 : decode cX6_aliases 38 = .ok (.if_icmp .ge 53, 3) := by decide +kernel
theorem dX6_aliases_41 : decode cX6_aliases 41 = .ok (.iload_n 3, 1) := by decide +kernel
theorem dX6_aliases_42 : decode cX6_aliases 42 = .ok (.aload_n 0, 1) := by decide +kernel
theorem dX6_aliases_43 : decode cX6_aliases 43 = .ok (.getfield 7, 3) := by decide +kernel
theorem dX6_aliases_46 : decode cX6_aliases 46 = .ok (.bipush 9, 2) := by decide +kernel
theorem dX6_aliases_48 : decode cX6_aliases 48 = .ok (.iload 4, 2) := by decide +kernel
theorem dX6_aliases_50 : decode cX6_aliases 50 = .ok (.iadd, 1) := by decide +kernel
theorem dX6_aliases_51 : decode cX6_aliases 51 = .ok (.iaload, 1) := by decide +kernel
theorem dX6_aliases_52 : decode cX6_aliases 52 = .ok (.iconst 1, 1) := by decide +kernel
theorem dX6_aliases_53 : decode cX6_aliases 53 = .ok (.if_icmp .ne 29, 3) := by decide +kernel
theorem dX6_aliases_56 : decode cX6_aliases 56 = .ok (.iload 4, 2) := by decide +kernel
theorem dX6_aliases_58 : decode cX6_aliases 58 = .ok (.iload_n 2, 1) := by decide +kernel
theorem dX6_aliases_59 : decode cX6_aliases 59 = .ok (.if_icmp .eq 23, 3) := by decide +kernel
theorem dX6_aliases_62 : decode cX6_aliases 62 = .ok (.aload_n 0, 1) := by decide +kernel
theorem dX6_aliases_63 : decode cX6_aliases 63 = .ok (.iload_n 1, 1) := by decide +kernel
theorem dX6_aliases_64 : decode cX6_aliases 64 = .ok (.iload 4, 2) := by decide +kernel
theorem dX6_aliases_66 : decode cX6_aliases 66 = .ok (.invokevirtual 58, 3) := by decide +kernel
theorem dX6_aliases_69 : decode cX6_aliases 69 = .ok (.aload_n 0, 1) := by decide +kernel
theorem dX6_aliases_70 : decode cX6_aliases 70 = .ok (.iload_n 1, 1) := by decide +kernel
theorem dX6_aliases_71 : decode cX6_aliases 71 = .ok (.iload_n 2, 1) := by decide +kernel
theorem dX6_aliases_72 : decode cX6_aliases 72 = .ok (.invokevirtual 58, 3) := by decide +kernel
theorem dX6_aliases_75 : decode cX6_aliases 75 = .ok (.if_icmp .ne 7, 3) := by decide +kernel
theorem dX6_aliases_78 : decode cX6_aliases 78 = .ok (.iconst 1, 1) := by decide +kernel
theorem dX6_aliases_79 : decode cX6_aliases 79 = .ok (.goto 4, 3) := by decide +kernel
theorem dX6_aliases_82 : decode cX6_aliases 82 = .ok (.iconst 0, 1) := by decide +kernel
theorem dX6_aliases_83 : decode cX6_aliases 83 = .ok (.iadd, 1) := by decide +kernel
theorem dX6_aliases_84 : decode cX6_aliases 84 = .ok (.istore_n 3, 1) := by decide +kernel
theorem dX6_aliases_85 : decode cX6_aliases 85 = .ok (.iinc 4 1, 3) := by decide +kernel
theorem dX6_aliases_88 : decode cX6_aliases 88 = .ok (.goto (-54), 3) := by decide +kernel
theorem dX6_aliases_91 : decode cX6_aliases 91 = .ok (.iload_n 3, 1) := by decide +kernel
theorem dX6_aliases_92 : decode cX6_aliases 92 = .ok (.ireturn, 1) := by decide +kernel
theorem dX6_floatBits_0 : decode cX6_floatBits 0 = .ok (.iload_n 0, 1) := by decide +kernel
theorem dX6_floatBits_1 : decode cX6_floatBits 1 = .ok (.ifCond .ne 5, 3) := by decide +kernel
theorem dX6_floatBits_4 : decode cX6_floatBits 4 = .ok (.iconst 0, 1) := by decide +kernel
theorem dX6_floatBits_5 : decode cX6_floatBits 5 = .ok (.ireturn, 1) := by decide +kernel
theorem dX6_floatBits_6 : decode cX6_floatBits 6 = .ok (.iload_n 0, 1) := by decide +kernel
theorem dX6_floatBits_7 : decode cX6_floatBits 7 = .ok (.i2l, 1) := by decide +kernel
theorem dX6_floatBits_8 : decode cX6_floatBits 8 = .ok (.lstore_n 2, 1) := by decide +kernel
theorem dX6_floatBits_9 : decode cX6_floatBits 9 = .ok (.iconst 0, 1) := by decide +kernel
theorem dX6_floatBits_10 : decode cX6_floatBits 10 = .ok (.istore 4, 2) := by decide +kernel
theorem dX6_floatBits_12 : decode cX6_floatBits 12 = .ok (.lload_n 2, 1) := by decide +kernel
theorem dX6_floatBits_13 : decode cX6_floatBits 13 = .ok (.iload_n 1, 1) := by decide +kernel
theorem dX6_floatBits_14 : decode cX6_floatBits 14 = .ok (.i2l, 1) := by decide +kernel
theorem dX6_floatBits_15 : decode cX6_floatBits 15 = .ok (.bipush 23, 2) := by decide +kernel
theorem dX6_floatBits_17 : decode cX6_floatBits 17 = .ok (.lshl, 1) := by decide +kernel
theorem dX6_floatBits_18 : decode cX6_floatBits 18 = .ok (.lcmp, 1) := by decide +kernel
theorem dX6_floatBits_19 : decode cX6_floatBits 19 = .ok (.ifCond .ge 15, 3) := by decide +kernel
theorem dX6_floatBits_22 : decode cX6_floatBits 22 = .ok (.ldc2_w 130, 3) := by decide +kernel
theorem dX6_floatBits_25 : decode cX6_floatBits 25 = .ok (.lload_n 2, 1) := by decide +kernel
theorem dX6_floatBits_26 : decode cX6_floatBits 26 = .ok (.lmul, 1) := by decide +kernel
theorem dX6_floatBits_27 : decode cX6_floatBits 27 = .ok (.lstore_n 2, 1) := by decide +kernel
theorem dX6_floatBits_28 : decode cX6_floatBits 28 = .ok (.iinc 4 1, 3) := by decide +kernel
theorem dX6_floatBits_31 : decode cX6_floatBits 31 = .ok (.goto (-19), 3) := by decide +kernel
theorem dX6_floatBits_34 : decode cX6_floatBits 34 = .ok (.lload_n 2, 1) := by decide +kernel
theorem dX6_floatBits_35 : decode cX6_floatBits 35 = .ok (.iload_n 1, 1) := by decide +kernel
theorem dX6_floatBits_36 : decode cX6_floatBits 36 = .ok (.i2l, 1) := by decide +kernel
theorem dX6_floatBits_37 : decode cX6_floatBits 37 = .ok (.ldiv, 1) := by decide +kernel
theorem dX6_floatBits_38 : decode cX6_floatBits 38 = .ok (.lstore 5, 2) := by decide +kernel
theorem dX6_floatBits_40 : decode cX6_floatBits 40 = .ok (.ldc2_w 130, 3) := by decide +kernel
theorem dX6_floatBits_43 : decode cX6_floatBits 43 = .ok (.lload_n 2, 1) := by decide +kernel
theorem dX6_floatBits_44 : decode cX6_floatBits 44 = .ok (.iload_n 1, 1) := by decide +kernel
theorem dX6_floatBits_45 : decode cX6_floatBits 45 = .ok (.i2l, 1) := by decide +kernel
theorem dX6_floatBits_46 : decode cX6_floatBits 46 = .ok (.lrem, 1) := by decide +kernel
theorem dX6_floatBits_47 : decode cX6_floatBits 47 = .ok (.lmul, 1) := by decide +kernel
theorem dX6_floatBits_48 : decode cX6_floatBits 48 = .ok (.lstore 7, 2) := by decide +kernel
theorem dX6_floatBits_50 : decode cX6_floatBits 50 = .ok (.lload 5, 2) := by decide +kernel
theorem dX6_floatBits_52 : decode cX6_floatBits 52 = .ok (.lload 7, 2) := by decide +kernel
theorem dX6_floatBits_54 : decode cX6_floatBits 54 = .ok (.iload_n 1, 1) := by decide +kernel
theorem dX6_floatBits_55 : decode cX6_floatBits 55 = .ok (.i2l, 1) := by decide +kernel
theorem dX6_floatBits_56 : decode cX6_floatBits 56 = .ok (.lcmp, 1) := by decide +kernel
theorem dX6_floatBits_57 : decode cX6_floatBits 57 = .ok (.ifCond .gt 22, 3) := by decide +kernel
theorem dX6_floatBits_60 : decode cX6_floatBits 60 = .ok (.lload 7, 2) := by decide +kernel
theorem dX6_floatBits_62 : decode cX6_floatBits 62 = .ok (.iload_n 1, 1) := by decide +kernel
theorem dX6_floatBits_63 : decode cX6_floatBits 63 = .ok (.i2l, 1) := by decide +kernel
theorem dX6_floatBits_64 : decode cX6_floatBits 64 = .ok (.lcmp, 1) := by decide +kernel
theorem dX6_floatBits_65 : decode cX6_floatBits 65 = .ok (.ifCond .ne 18, 3) := by decide +kernel
theorem dX6_floatBits_68 : decode cX6_floatBits 68 = .ok (.lload 5, 2) := by decide +kernel
theorem dX6_floatBits_70 : decode cX6_floatBits 70 = .ok (.ldc2_w 130, 3) := by decide +kernel
theorem dX6_floatBits_73 : decode cX6_floatBits 73 = .ok (.lrem, 1) := by decide +kernel
theorem dX6_floatBits_74 : decode cX6_floatBits 74 = .ok (.lconst 1, 1) := by decide +kernel
theorem dX6_floatBits_75 : decode cX6_floatBits 75 = .ok (.lcmp, 1) := by decide +kernel
theorem dX6_floatBits_76 : decode cX6_floatBits 76 = .ok (.ifCond .ne 7, 3) := by decide +kernel
theorem dX6_floatBits_79 : decode cX6_floatBits 79 = .ok (.lconst 1, 1) := by decide +kernel
theorem dX6_floatBits_80 : decode cX6_floatBits 80 = .ok (.goto 4, 3) := by decide +kernel
theorem dX6_floatBits_83 : decode cX6_floatBits 83 = .ok (.lconst 0, 1) := by decide +kernel
theorem dX6_floatBits_84 : decode cX6_floatBits 84 = .ok (.ladd, 1) := by decide +kernel
theorem dX6_floatBits_85 : decode cX6_floatBits 85 = .ok (.lstore 5, 2) := by decide +kernel
theorem dX6_floatBits_87 : decode cX6_floatBits 87 = .ok (.sipush 150, 3) := by decide +kernel
theorem dX6_floatBits_90 : decode cX6_floatBits 90 = .ok (.iload 4, 2) := by decide +kernel
theorem dX6_floatBits_92 : decode cX6_floatBits 92 = .ok (.isub, 1) := by decide +kernel
theorem dX6_floatBits_93 : decode cX6_floatBits 93 = .ok (.bipush 23, 2) := by decide +kernel
theorem dX6_floatBits_95 : decode cX6_floatBits 95 = .ok (.ishl, 1) := by decide +kernel
theorem dX6_floatBits_96 : decode cX6_floatBits 96 = .ok (.lload 5, 2) := by decide +kernel
theorem dX6_floatBits_98 : decode cX6_floatBits 98 = .ok (.ldc2_w 132, 3) := by decide +kernel
theorem dX6_floatBits_101 : decode cX6_floatBits 101 = .ok (.lsub, 1) := by decide +kernel
theorem dX6_floatBits_102 : decode cX6_floatBits 102 = .ok (.l2i, 1) := by decide +kernel
theorem dX6_floatBits_103 : decode cX6_floatBits 103 = .ok (.iadd, 1) := by decide +kernel
theorem dX6_floatBits_104 : decode cX6_floatBits 104 = .ok (.ireturn, 1) := by decide +kernel
theorem dX6_share_0 : decode cX6_share 0 = .ok (.aload_n 0, 1) := by decide +kernel
theorem dX6_share_1 : decode cX6_share 1 = .ok (.iload_n 1, 1) := by decide +kernel
theorem dX6_share_2 : decode cX6_share 2 = .ok (.invokevirtual 86, 3) := by decide +kernel
theorem dX6_share_5 : decode cX6_share 5 = .ok (.ifCond .ne 6, 3) := by decide +kernel
theorem dX6_share_8 : decode cX6_share 8 = .ok (.ldc 77, 2) := by decide +kernel
theorem dX6_share_10 : decode cX6_share 10 = .ok (.ireturn, 1) := by decide +kernel
theorem dX6_share_11 : decode cX6_share 11 = .ok (.aload_n 0, 1) := by decide +kernel
theorem dX6_share_12 : decode cX6_share 12 = .ok (.iload_n 1, 1) := by decide +kernel
theorem dX6_share_13 : decode cX6_share 13 = .ok (.iconst 5, 1) := by decide +kernel
theorem dX6_share_14 : decode cX6_share 14 = .ok (.invokevirtual 46, 3) := by decide +kernel
theorem dX6_share_17 : decode cX6_share 17 = .ok (.aload_n 0, 1) := by decide +kernel
theorem dX6_share_18 : decode cX6_share 18 = .ok (.iload_n 1, 1) := by decide +kernel
theorem dX6_share_19 : decode cX6_share 19 = .ok (.bipush 6, 2) := by decide +kernel
theorem dX6_share_21 : decode cX6_share 21 = .ok (.invokevirtual 46, 3) := by decide +kernel
theorem dX6_share_24 : decode cX6_share 24 = .ok (.iadd, 1) := by decide +kernel
theorem dX6_share_25 : decode cX6_share 25 = .ok (.istore_n 2, 1) := by decide +kernel
theorem dX6_share_26 : decode cX6_share 26 = .ok (.iload_n 2, 1) := by decide +kernel
theorem dX6_share_27 : decode cX6_share 27 = .ok (.ifCond .ne 8, 3) := by decide +kernel
theorem dX6_share_30 : decode cX6_share 30 = .ok (.ldc 129, 2) := by decide +kernel
theorem dX6_share_32 : decode cX6_share 32 = .ok (.goto 13, 3) := by decide +kernel
theorem dX6_share_35 : decode cX6_share 35 = .ok (.aload_n 0, 1) := by decide +kernel
theorem dX6_share_36 : decode cX6_share 36 = .ok (.iload_n 1, 1) := by decide +kernel
theorem dX6_share_37 : decode cX6_share 37 = .ok (.iconst 5, 1) := by decide +kernel
theorem dX6_share_38 : decode cX6_share 38 = .ok (.invokevirtual 46, 3) := by decide +kernel
theorem dX6_share_41 : decode cX6_share 41 = .ok (.iload_n 2, 1) := by decide +kernel
theorem dX6_share_42 : decode cX6_share 42 = .ok (.invokestatic 134, 3) := by decide +kernel
theorem dX6_share_45 : decode cX6_share 45 = .ok (.ireturn, 1) := by decide +kernel
theorem dX6_richer_0 : decode cX6_richer 0 = .ok (.iconst 0, 1) := by decide +kernel
theorem dX6_richer_1 : decode cX6_richer 1 = .ok (.istore_n 2, 1) := by decide +kernel
theorem dX6_richer_2 : decode cX6_richer 2 = .ok (.iconst 0, 1) := by decide +kernel
theorem dX6_richer_3 : decode cX6_richer 3 = .ok (.istore_n 3, 1) := by decide +kernel
theorem dX6_richer_4 : decode cX6_richer 4 = .ok (.iload_n 3, 1) := by decide +kernel
theorem dX6_richer_5 : decode cX6_richer 5 = .ok (.aload_n 0, 1) := by decide +kernel
theorem dX6_richer_6 : decode cX6_richer 6 = .ok (.getfield 7, 3) := by decide +kernel
theorem dX6_richer_9 : decode cX6_richer 9 = .ok (.bipush 7, 2) := by decide +kernel
theorem dX6_richer_11 : decode cX6_richer 11 = .ok (.iaload, 1) := by decide +kernel
theorem dX6_richer_12 : decode cX6_richer 12 = .ok (.if_icmp .ge 47, 3) := by decide +kernel
theorem dX6_richer_15 : decode cX6_richer 15 = .ok (.aload_n 0, 1) := by decide +kernel
theorem dX6_richer_16 : decode cX6_richer 16 = .ok (.iload_n 3, 1) := by decide +kernel
theorem dX6_richer_17 : decode cX6_richer 17 = .ok (.iconst 2, 1) := by decide +kernel
theorem dX6_richer_18 : decode cX6_richer 18 = .ok (.invokevirtual 46, 3) := by decide +kernel
theorem dX6_richer_21 : decode cX6_richer 21 = .ok (.aload_n 0, 1) := by decide +kernel
theorem dX6_richer_22 : decode cX6_richer 22 = .ok (.iload_n 1, 1) := by decide +kernel
theorem dX6_richer_23 : decode cX6_richer 23 = .ok (.iconst 2, 1) := by decide +kernel
theorem dX6_richer_24 : decode cX6_richer 24 = .ok (.invokevirtual 46, 3) := by decide +kernel
theorem dX6_richer_27 : decode cX6_richer 27 = .ok (.isub, 1) := by decide +kernel
theorem dX6_richer_28 : decode cX6_richer 28 = .ok (.istore 4, 2) := by decide +kernel
theorem dX6_richer_30 : decode cX6_richer 30 = .ok (.iload_n 2, 1) := by decide +kernel
theorem dX6_richer_31 : decode cX6_richer 31 = .ok (.iload 4, 2) := by decide +kernel
theorem dX6_richer_33 : decode cX6_richer 33 = .ok (.ifCond .gt 13, 3) := by decide +kernel
theorem dX6_richer_36 : decode cX6_richer 36 = .ok (.iload 4, 2) := by decide +kernel
theorem dX6_richer_38 : decode cX6_richer 38 = .ok (.ifCond .ne 12, 3) := by decide +kernel
theorem dX6_richer_41 : decode cX6_richer 41 = .ok (.iload_n 3, 1) := by decide +kernel
theorem dX6_richer_42 : decode cX6_richer 42 = .ok (.iload_n 1, 1) := by decide +kernel
theorem dX6_richer_43 : decode cX6_richer 43 = .ok (.if_icmp .ge 7, 3) := by decide +kernel
theorem dX6_richer_46 : decode cX6_richer 46 = .ok (.iconst 1, 1) := by decide +kernel
theorem dX6_richer_47 : decode cX6_richer 47 = .ok (.goto 4, 3) := by decide +kernel
theorem dX6_richer_50 : decode cX6_richer 50 = .ok (.iconst 0, 1) := by decide +kernel
theorem dX6_richer_51 : decode cX6_richer 51 = .ok (.iadd, 1) := by decide +kernel
theorem dX6_richer_52 : decode cX6_richer 52 = .ok (.istore_n 2, 1) := by decide +kernel
theorem dX6_richer_53 : decode cX6_richer 53 = .ok (.iinc 3 1, 3) := by decide +kernel
theorem dX6_richer_56 : decode cX6_richer 56 = .ok (.goto (-52), 3) := by decide +kernel
theorem dX6_richer_59 : decode cX6_richer 59 = .ok (.iload_n 2, 1) := by decide +kernel
theorem dX6_richer_60 : decode cX6_richer 60 = .ok (.ireturn, 1) := by decide +kernel
theorem dX6_rich_0 : decode cX6_rich 0 = .ok (.iload_n 1, 1) := by decide +kernel
theorem dX6_rich_1 : decode cX6_rich 1 = .ok (.ifCond .ge 6, 3) := by decide +kernel
theorem dX6_rich_4 : decode cX6_rich 4 = .ok (.ldc 77, 2) := by decide +kernel
theorem dX6_rich_6 : decode cX6_rich 6 = .ok (.ireturn, 1) := by decide +kernel
theorem dX6_rich_7 : decode cX6_rich 7 = .ok (.ldc 129, 2) := by decide +kernel
theorem dX6_rich_9 : decode cX6_rich 9 = .ok (.istore_n 2, 1) := by decide +kernel
theorem dX6_rich_10 : decode cX6_rich 10 = .ok (.iconst 0, 1) := by decide +kernel
theorem dX6_rich_11 : decode cX6_rich 11 = .ok (.istore_n 3, 1) := by decide +kernel
theorem dX6_rich_12 : decode cX6_rich 12 = .ok (.iload_n 3, 1) := by decide +kernel
theorem dX6_rich_13 : decode cX6_rich 13 = .ok (.aload_n 0, 1) := by decide +kernel
theorem dX6_rich_14 : decode cX6_rich 14 = .ok (.getfield 7, 3) := by decide +kernel
theorem dX6_rich_17 : decode cX6_rich 17 = .ok (.bipush 7, 2) := by decide +kernel
theorem dX6_rich_19 : decode cX6_rich 19 = .ok (.iaload, 1) := by decide +kernel
theorem dX6_rich_20 : decode cX6_rich 20 = .ok (.if_icmp .ge 24, 3) := by decide +kernel
theorem dX6_rich_23 : decode cX6_rich 23 = .ok (.aload_n 0, 1) := by decide +kernel
theorem dX6_rich_24 : decode cX6_rich 24 = .ok (.iload_n 3, 1) := by decide +kernel
theorem dX6_rich_25 : decode cX6_rich 25 = .ok (.invokevirtual 137, 3) := by decide +kernel
theorem dX6_rich_28 : decode cX6_rich 28 = .ok (.iload_n 1, 1) := by decide +kernel
theorem dX6_rich_29 : decode cX6_rich 29 = .ok (.if_icmp .ne 7, 3) := by decide +kernel
theorem dX6_rich_32 : decode cX6_rich 32 = .ok (.iload_n 3, 1) := by decide +kernel
theorem dX6_rich_33 : decode cX6_rich 33 = .ok (.goto 4, 3) := by decide +kernel
theorem dX6_rich_36 : decode cX6_rich 36 = .ok (.iload_n 2, 1) := by decide +kernel
theorem dX6_rich_37 : decode cX6_rich 37 = .ok (.istore_n 2, 1) := by decide +kernel
theorem dX6_rich_38 : decode cX6_rich 38 = .ok (.iinc 3 1, 3) := by decide +kernel
theorem dX6_rich_41 : decode cX6_rich 41 = .ok (.goto (-29), 3) := by decide +kernel
theorem dX6_rich_44 : decode cX6_rich 44 = .ok (.iload_n 2, 1) := by decide +kernel
theorem dX6_rich_45 : decode cX6_rich 45 = .ok (.ireturn, 1) := by decide +kernel
theorem dX6_says_0 : decode cX6_says 0 = .ok (.aload_n 0, 1) := by decide +kernel
theorem dX6_says_1 : decode cX6_says 1 = .ok (.iload_n 1, 1) := by decide +kernel
theorem dX6_says_2 : decode cX6_says 2 = .ok (.invokevirtual 86, 3) := by decide +kernel
theorem dX6_says_5 : decode cX6_says 5 = .ok (.ifCond .eq 19, 3) := by decide +kernel
theorem dX6_says_8 : decode cX6_says 8 = .ok (.iload_n 2, 1) := by decide +kernel
theorem dX6_says_9 : decode cX6_says 9 = .ok (.invokestatic 117, 3) := by decide +kernel
theorem dX6_says_12 : decode cX6_says 12 = .ok (.ifCond .eq 12, 3) := by decide +kernel
theorem dX6_says_15 : decode cX6_says 15 = .ok (.aload_n 0, 1) := by decide +kernel
theorem dX6_says_16 : decode cX6_says 16 = .ok (.iload_n 1, 1) := by decide +kernel
theorem dX6_says_17 : decode cX6_says 17 = .ok (.iload_n 2, 1) := by decide +kernel
theorem dX6_says_18 : decode cX6_says 18 = .ok (.invokevirtual 104, 3) := by decide +kernel
theorem dX6_says_21 : decode cX6_says 21 = .ok (.goto 5, 3) := by decide +kernel
theorem dX6_says_24 : decode cX6_says 24 = .ok (.ldc 77, 2) := by decide +kernel
theorem dX6_says_26 : decode cX6_says 26 = .ok (.ireturn, 1) := by decide +kernel
theorem dX6_stake_0 : decode cX6_stake 0 = .ok (.aload_n 0, 1) := by decide +kernel
theorem dX6_stake_1 : decode cX6_stake 1 = .ok (.iload_n 1, 1) := by decide +kernel
theorem dX6_stake_2 : decode cX6_stake 2 = .ok (.invokevirtual 86, 3) := by decide +kernel
theorem dX6_stake_5 : decode cX6_stake 5 = .ok (.ifCond .eq 19, 3) := by decide +kernel
theorem dX6_stake_8 : decode cX6_stake 8 = .ok (.iload_n 2, 1) := by decide +kernel
theorem dX6_stake_9 : decode cX6_stake 9 = .ok (.invokestatic 117, 3) := by decide +kernel
theorem dX6_stake_12 : decode cX6_stake 12 = .ok (.ifCond .eq 12, 3) := by decide +kernel
theorem dX6_stake_15 : decode cX6_stake 15 = .ok (.aload_n 0, 1) := by decide +kernel
theorem dX6_stake_16 : decode cX6_stake 16 = .ok (.iload_n 1, 1) := by decide +kernel
theorem dX6_stake_17 : decode cX6_stake 17 = .ok (.iload_n 2, 1) := by decide +kernel
theorem dX6_stake_18 : decode cX6_stake 18 = .ok (.invokevirtual 107, 3) := by decide +kernel
theorem dX6_stake_21 : decode cX6_stake 21 = .ok (.goto 5, 3) := by decide +kernel
theorem dX6_stake_24 : decode cX6_stake 24 = .ok (.ldc 77, 2) := by decide +kernel
theorem dX6_stake_26 : decode cX6_stake 26 = .ok (.ireturn, 1) := by decide +kernel
theorem dX6_odds_0 : decode cX6_odds 0 = .ok (.iload_n 1, 1) := by decide +kernel
theorem dX6_odds_1 : decode cX6_odds 1 = .ok (.invokestatic 117, 3) := by decide +kernel
theorem dX6_odds_4 : decode cX6_odds 4 = .ok (.ifCond .ne 6, 3) := by decide +kernel
theorem dX6_odds_7 : decode cX6_odds 7 = .ok (.ldc 77, 2) := by decide +kernel
theorem dX6_odds_9 : decode cX6_odds 9 = .ok (.ireturn, 1) := by decide +kernel
theorem dX6_odds_10 : decode cX6_odds 10 = .ok (.iconst 0, 1) := by decide +kernel
theorem dX6_odds_11 : decode cX6_odds 11 = .ok (.istore_n 2, 1) := by decide +kernel
theorem dX6_odds_12 : decode cX6_odds 12 = .ok (.iconst 0, 1) := by decide +kernel
theorem dX6_odds_13 : decode cX6_odds 13 = .ok (.istore_n 3, 1) := by decide +kernel
theorem dX6_odds_14 : decode cX6_odds 14 = .ok (.iconst 0, 1) := by decide +kernel
theorem dX6_odds_15 : decode cX6_odds 15 = .ok (.istore 4, 2) := by decide +kernel
theorem dX6_odds_17 : decode cX6_odds 17 = .ok (.iload 4, 2) := by decide +kernel
theorem dX6_odds_19 : decode cX6_odds 19 = .ok (.aload_n 0, 1) := by decide +kernel
theorem dX6_odds_20 : decode cX6_odds 20 = .ok (.getfield 7, 3) := by decide +kernel
theorem dX6_odds_23 : decode cX6_odds 23 = .ok (.bipush 7, 2) := by decide +kernel
theorem dX6_odds_25 : decode cX6_odds 25 = .ok (.iaload, 1) := by decide +kernel
theorem dX6_odds_26 : decode cX6_odds 26 = .ok (.if_icmp .ge 44, 3) := by decide +kernel
theorem dX6_odds_29 : decode cX6_odds 29 = .ok (.iload_n 2, 1) := by decide +kernel
theorem dX6_odds_30 : decode cX6_odds 30 = .ok (.aload_n 0, 1) := by decide +kernel
theorem dX6_odds_31 : decode cX6_odds 31 = .ok (.iload 4, 2) := by decide +kernel
theorem dX6_odds_33 : decode cX6_odds 33 = .ok (.iload_n 1, 1) := by decide +kernel
theorem dX6_odds_34 : decode cX6_odds 34 = .ok (.invokevirtual 107, 3) := by decide +kernel
theorem dX6_odds_37 : decode cX6_odds 37 = .ok (.iadd, 1) := by decide +kernel
theorem dX6_odds_38 : decode cX6_odds 38 = .ok (.istore_n 2, 1) := by decide +kernel
theorem dX6_odds_39 : decode cX6_odds 39 = .ok (.iload_n 3, 1) := by decide +kernel
theorem dX6_odds_40 : decode cX6_odds 40 = .ok (.aload_n 0, 1) := by decide +kernel
theorem dX6_odds_41 : decode cX6_odds 41 = .ok (.iload 4, 2) := by decide +kernel
theorem dX6_odds_43 : decode cX6_odds 43 = .ok (.iload_n 1, 1) := by decide +kernel
theorem dX6_odds_44 : decode cX6_odds 44 = .ok (.invokevirtual 104, 3) := by decide +kernel
theorem dX6_odds_47 : decode cX6_odds 47 = .ok (.iconst 1, 1) := by decide +kernel
theorem dX6_odds_48 : decode cX6_odds 48 = .ok (.if_icmp .ne 13, 3) := by decide +kernel
theorem dX6_odds_51 : decode cX6_odds 51 = .ok (.aload_n 0, 1) := by decide +kernel
theorem dX6_odds_52 : decode cX6_odds 52 = .ok (.iload 4, 2) := by decide +kernel
theorem dX6_odds_54 : decode cX6_odds 54 = .ok (.iload_n 1, 1) := by decide +kernel
theorem dX6_odds_55 : decode cX6_odds 55 = .ok (.invokevirtual 107, 3) := by decide +kernel
theorem dX6_odds_58 : decode cX6_odds 58 = .ok (.goto 4, 3) := by decide +kernel
theorem dX6_odds_61 : decode cX6_odds 61 = .ok (.iconst 0, 1) := by decide +kernel
theorem dX6_odds_62 : decode cX6_odds 62 = .ok (.iadd, 1) := by decide +kernel
theorem dX6_odds_63 : decode cX6_odds 63 = .ok (.istore_n 3, 1) := by decide +kernel
theorem dX6_odds_64 : decode cX6_odds 64 = .ok (.iinc 4 1, 3) := by decide +kernel
theorem dX6_odds_67 : decode cX6_odds 67 = .ok (.goto (-50), 3) := by decide +kernel
theorem dX6_odds_70 : decode cX6_odds 70 = .ok (.iload_n 2, 1) := by decide +kernel
theorem dX6_odds_71 : decode cX6_odds 71 = .ok (.ifCond .ne 8, 3) := by decide +kernel
theorem dX6_odds_74 : decode cX6_odds 74 = .ok (.ldc 129, 2) := by decide +kernel
theorem dX6_odds_76 : decode cX6_odds 76 = .ok (.goto 8, 3) := by decide +kernel
theorem dX6_odds_79 : decode cX6_odds 79 = .ok (.iload_n 3, 1) := by decide +kernel
theorem dX6_odds_80 : decode cX6_odds 80 = .ok (.iload_n 2, 1) := by decide +kernel
theorem dX6_odds_81 : decode cX6_odds 81 = .ok (.invokestatic 134, 3) := by decide +kernel
theorem dX6_odds_84 : decode cX6_odds 84 = .ok (.ireturn, 1) := by decide +kernel
theorem dX6_gain_0 : decode cX6_gain 0 = .ok (.aload_n 0, 1) := by decide +kernel
theorem dX6_gain_1 : decode cX6_gain 1 = .ok (.iload_n 1, 1) := by decide +kernel
theorem dX6_gain_2 : decode cX6_gain 2 = .ok (.invokevirtual 86, 3) := by decide +kernel
theorem dX6_gain_5 : decode cX6_gain 5 = .ok (.ifCond .eq 17, 3) := by decide +kernel
theorem dX6_gain_8 : decode cX6_gain 8 = .ok (.iload_n 2, 1) := by decide +kernel
theorem dX6_gain_9 : decode cX6_gain 9 = .ok (.invokestatic 117, 3) := by decide +kernel
theorem dX6_gain_12 : decode cX6_gain 12 = .ok (.ifCond .eq 10, 3) := by decide +kernel
theorem dX6_gain_15 : decode cX6_gain 15 = .ok (.iload_n 3, 1) := by decide +kernel
theorem dX6_gain_16 : decode cX6_gain 16 = .ok (.invokestatic 120, 3) := by decide +kernel
theorem dX6_gain_19 : decode cX6_gain 19 = .ok (.ifCond .ne 6, 3) := by decide +kernel
theorem dX6_gain_22 : decode cX6_gain 22 = .ok (.ldc 77, 2) := by decide +kernel
theorem dX6_gain_24 : decode cX6_gain 24 = .ok (.ireturn, 1) := by decide +kernel
theorem dX6_gain_25 : decode cX6_gain 25 = .ok (.aload_n 0, 1) := by decide +kernel
theorem dX6_gain_26 : decode cX6_gain 26 = .ok (.getfield 7, 3) := by decide +kernel
theorem dX6_gain_29 : decode cX6_gain 29 = .ok (.iconst 0, 1) := by decide +kernel
theorem dX6_gain_30 : decode cX6_gain 30 = .ok (.aload_n 0, 1) := by decide +kernel
theorem dX6_gain_31 : decode cX6_gain 31 = .ok (.getfield 13, 3) := by decide +kernel
theorem dX6_gain_34 : decode cX6_gain 34 = .ok (.iconst 0, 1) := by decide +kernel
theorem dX6_gain_35 : decode cX6_gain 35 = .ok (.invokestatic 38, 3) := by decide +kernel
theorem dX6_gain_38 : decode cX6_gain 38 = .ok (.aload_n 0, 1) := by decide +kernel
theorem dX6_gain_39 : decode cX6_gain 39 = .ok (.iload_n 2, 1) := by decide +kernel
theorem dX6_gain_40 : decode cX6_gain 40 = .ok (.iload_n 3, 1) := by decide +kernel
theorem dX6_gain_41 : decode cX6_gain 41 = .ok (.invokevirtual 123, 3) := by decide +kernel
theorem dX6_gain_44 : decode cX6_gain 44 = .ok (.pop, 1) := by decide +kernel
theorem dX6_gain_45 : decode cX6_gain 45 = .ok (.aload_n 0, 1) := by decide +kernel
theorem dX6_gain_46 : decode cX6_gain 46 = .ok (.iload_n 1, 1) := by decide +kernel
theorem dX6_gain_47 : decode cX6_gain 47 = .ok (.iconst 2, 1) := by decide +kernel
theorem dX6_gain_48 : decode cX6_gain 48 = .ok (.invokevirtual 46, 3) := by decide +kernel
theorem dX6_gain_51 : decode cX6_gain 51 = .ok (.aload_n 0, 1) := by decide +kernel
theorem dX6_gain_52 : decode cX6_gain 52 = .ok (.getfield 13, 3) := by decide +kernel
theorem dX6_gain_55 : decode cX6_gain 55 = .ok (.bipush 73, 2) := by decide +kernel
theorem dX6_gain_57 : decode cX6_gain 57 = .ok (.bipush 42, 2) := by decide +kernel
theorem dX6_gain_59 : decode cX6_gain 59 = .ok (.iload_n 1, 1) := by decide +kernel
theorem dX6_gain_60 : decode cX6_gain 60 = .ok (.imul, 1) := by decide +kernel
theorem dX6_gain_61 : decode cX6_gain 61 = .ok (.iadd, 1) := by decide +kernel
theorem dX6_gain_62 : decode cX6_gain 62 = .ok (.iconst 2, 1) := by decide +kernel
theorem dX6_gain_63 : decode cX6_gain 63 = .ok (.iadd, 1) := by decide +kernel
theorem dX6_gain_64 : decode cX6_gain 64 = .ok (.iaload, 1) := by decide +kernel
theorem dX6_gain_65 : decode cX6_gain 65 = .ok (.isub, 1) := by decide +kernel
theorem dX6_gain_66 : decode cX6_gain 66 = .ok (.istore 4, 2) := by decide +kernel
theorem dX6_gain_68 : decode cX6_gain 68 = .ok (.aload_n 0, 1) := by decide +kernel
theorem dX6_gain_69 : decode cX6_gain 69 = .ok (.getfield 13, 3) := by decide +kernel
theorem dX6_gain_72 : decode cX6_gain 72 = .ok (.iconst 0, 1) := by decide +kernel
theorem dX6_gain_73 : decode cX6_gain 73 = .ok (.aload_n 0, 1) := by decide +kernel
theorem dX6_gain_74 : decode cX6_gain 74 = .ok (.getfield 7, 3) := by decide +kernel
theorem dX6_gain_77 : decode cX6_gain 77 = .ok (.iconst 0, 1) := by decide +kernel
theorem dX6_gain_78 : decode cX6_gain 78 = .ok (.invokestatic 38, 3) := by decide +kernel
theorem dX6_gain_81 : decode cX6_gain 81 = .ok (.iload 4, 2) := by decide +kernel
theorem dX6_gain_83 : decode cX6_gain 83 = .ok (.ireturn, 1) := by decide +kernel
theorem dX6_doom_0 : decode cX6_doom 0 = .ok (.aload_n 0, 1) := by decide +kernel
theorem dX6_doom_1 : decode cX6_doom 1 = .ok (.iload_n 1, 1) := by decide +kernel
theorem dX6_doom_2 : decode cX6_doom 2 = .ok (.invokevirtual 86, 3) := by decide +kernel
theorem dX6_doom_5 : decode cX6_doom 5 = .ok (.ifCond .eq 17, 3) := by decide +kernel
theorem dX6_doom_8 : decode cX6_doom 8 = .ok (.iload_n 2, 1) := by decide +kernel
theorem dX6_doom_9 : decode cX6_doom 9 = .ok (.invokestatic 117, 3) := by decide +kernel
theorem dX6_doom_12 : decode cX6_doom 12 = .ok (.ifCond .eq 10, 3) := by decide +kernel
theorem dX6_doom_15 : decode cX6_doom 15 = .ok (.iload_n 3, 1) := by decide +kernel
theorem dX6_doom_16 : decode cX6_doom 16 = .ok (.invokestatic 120, 3) := by decide +kernel
theorem dX6_doom_19 : decode cX6_doom 19 = .ok (.ifCond .ne 6, 3) := by decide +kernel
theorem dX6_doom_22 : decode cX6_doom 22 = .ok (.ldc 77, 2) := by decide +kernel
theorem dX6_doom_24 : decode cX6_doom 24 = .ok (.ireturn, 1) := by decide +kernel
theorem dX6_doom_25 : decode cX6_doom 25 = .ok (.aload_n 0, 1) := by decide +kernel
theorem dX6_doom_26 : decode cX6_doom 26 = .ok (.getfield 7, 3) := by decide +kernel
theorem dX6_doom_29 : decode cX6_doom 29 = .ok (.iconst 0, 1) := by decide +kernel
theorem dX6_doom_30 : decode cX6_doom 30 = .ok (.aload_n 0, 1) := by decide +kernel
theorem dX6_doom_31 : decode cX6_doom 31 = .ok (.getfield 13, 3) := by decide +kernel
theorem dX6_doom_34 : decode cX6_doom 34 = .ok (.iconst 0, 1) := by decide +kernel
theorem dX6_doom_35 : decode cX6_doom 35 = .ok (.invokestatic 38, 3) := by decide +kernel
theorem dX6_doom_38 : decode cX6_doom 38 = .ok (.iconst 0, 1) := by decide +kernel
theorem dX6_doom_39 : decode cX6_doom 39 = .ok (.istore 4, 2) := by decide +kernel
theorem dX6_doom_41 : decode cX6_doom 41 = .ok (.iload 4, 2) := by decide +kernel
theorem dX6_doom_43 : decode cX6_doom 43 = .ok (.bipush 100, 2) := by decide +kernel
theorem dX6_doom_45 : decode cX6_doom 45 = .ok (.if_icmp .ge 25, 3) := by decide +kernel
theorem dX6_doom_48 : decode cX6_doom 48 = .ok (.aload_n 0, 1) := by decide +kernel
theorem dX6_doom_49 : decode cX6_doom 49 = .ok (.iload_n 1, 1) := by decide +kernel
theorem dX6_doom_50 : decode cX6_doom 50 = .ok (.iconst 2, 1) := by decide +kernel
theorem dX6_doom_51 : decode cX6_doom 51 = .ok (.invokevirtual 46, 3) := by decide +kernel
theorem dX6_doom_54 : decode cX6_doom 54 = .ok (.ifCond .le 16, 3) := by decide +kernel
theorem dX6_doom_57 : decode cX6_doom 57 = .ok (.aload_n 0, 1) := by decide +kernel
theorem dX6_doom_58 : decode cX6_doom 58 = .ok (.iload_n 2, 1) := by decide +kernel
theorem dX6_doom_59 : decode cX6_doom 59 = .ok (.iload_n 3, 1) := by decide +kernel
theorem dX6_doom_60 : decode cX6_doom 60 = .ok (.invokevirtual 123, 3) := by decide +kernel
theorem dX6_doom_63 : decode cX6_doom 63 = .ok (.pop, 1) := by decide +kernel
theorem dX6_doom_64 : decode cX6_doom 64 = .ok (.iinc 4 1, 3) := by decide +kernel
theorem dX6_doom_67 : decode cX6_doom 67 = .ok (.goto (-26), 3) := by decide +kernel
theorem dX6_doom_70 : decode cX6_doom 70 = .ok (.aload_n 0, 1) := by decide +kernel
theorem dX6_doom_71 : decode cX6_doom 71 = .ok (.iload_n 1, 1) := by decide +kernel
theorem dX6_doom_72 : decode cX6_doom 72 = .ok (.iconst 2, 1) := by decide +kernel
theorem dX6_doom_73 : decode cX6_doom 73 = .ok (.invokevirtual 46, 3) := by decide +kernel
theorem dX6_doom_76 : decode cX6_doom 76 = .ok (.ifCond .ne 8, 3) := by decide +kernel
theorem dX6_doom_79 : decode cX6_doom 79 = .ok (.iload 4, 2) := by decide +kernel
theorem dX6_doom_81 : decode cX6_doom 81 = .ok (.goto 5, 3) := by decide +kernel
theorem dX6_doom_84 : decode cX6_doom 84 = .ok (.ldc 129, 2) := by decide +kernel
theorem dX6_doom_86 : decode cX6_doom 86 = .ok (.istore 5, 2) := by decide +kernel
theorem dX6_doom_88 : decode cX6_doom 88 = .ok (.aload_n 0, 1) := by decide +kernel
theorem dX6_doom_89 : decode cX6_doom 89 = .ok (.getfield 13, 3) := by decide +kernel
theorem dX6_doom_92 : decode cX6_doom 92 = .ok (.iconst 0, 1) := by decide +kernel
theorem dX6_doom_93 : decode cX6_doom 93 = .ok (.aload_n 0, 1) := by decide +kernel
theorem dX6_doom_94 : decode cX6_doom 94 = .ok (.getfield 7, 3) := by decide +kernel
theorem dX6_doom_97 : decode cX6_doom 97 = .ok (.iconst 0, 1) := by decide +kernel
theorem dX6_doom_98 : decode cX6_doom 98 = .ok (.invokestatic 38, 3) := by decide +kernel
theorem dX6_doom_101 : decode cX6_doom 101 = .ok (.iload 5, 2) := by decide +kernel
theorem dX6_doom_103 : decode cX6_doom 103 = .ok (.ireturn, 1) := by decide +kernel
theorem dX6_bestRow_0 : decode cX6_bestRow 0 = .ok (.aload_n 0, 1) := by decide +kernel
theorem dX6_bestRow_1 : decode cX6_bestRow 1 = .ok (.iload_n 1, 1) := by decide +kernel
theorem dX6_bestRow_2 : decode cX6_bestRow 2 = .ok (.invokevirtual 86, 3) := by decide +kernel
theorem dX6_bestRow_5 : decode cX6_bestRow 5 = .ok (.ifCond .eq 29, 3) := by decide +kernel
theorem dX6_bestRow_8 : decode cX6_bestRow 8 = .ok (.iload_n 2, 1) := by decide +kernel
theorem dX6_bestRow_9 : decode cX6_bestRow 9 = .ok (.invokestatic 117, 3) := by decide +kernel
theorem dX6_bestRow_12 : decode cX6_bestRow 12 = .ok (.ifCond .eq 22, 3) := by decide +kernel
theorem dX6_bestRow_15 : decode cX6_bestRow 15 = .ok (.iload_n 3, 1) := by decide +kernel
theorem dX6_bestRow_16 : decode cX6_bestRow 16 = .ok (.iconst 1, 1) := by decide +kernel
theorem dX6_bestRow_17 : decode cX6_bestRow 17 = .ok (.iconst 5, 1) := by decide +kernel
theorem dX6_bestRow_18 : decode cX6_bestRow 18 = .ok (.invokestatic 42, 3) := by decide +kernel
theorem dX6_bestRow_21 : decode cX6_bestRow 21 = .ok (.ifCond .eq 13, 3) := by decide +kernel
theorem dX6_bestRow_24 : decode cX6_bestRow 24 = .ok (.iload 4, 2) := by decide +kernel
theorem dX6_bestRow_26 : decode cX6_bestRow 26 = .ok (.iconst 0, 1) := by decide +kernel
theorem dX6_bestRow_27 : decode cX6_bestRow 27 = .ok (.iconst 1, 1) := by decide +kernel
theorem dX6_bestRow_28 : decode cX6_bestRow 28 = .ok (.invokestatic 42, 3) := by decide +kernel
theorem dX6_bestRow_31 : decode cX6_bestRow 31 = .ok (.ifCond .ne 6, 3) := by decide +kernel
theorem dX6_bestRow_34 : decode cX6_bestRow 34 = .ok (.ldc 77, 2) := by decide +kernel
theorem dX6_bestRow_36 : decode cX6_bestRow 36 = .ok (.ireturn, 1) := by decide +kernel
theorem dX6_bestRow_37 : decode cX6_bestRow 37 = .ok (.aload_n 0, 1) := by decide +kernel
theorem dX6_bestRow_38 : decode cX6_bestRow 38 = .ok (.getfield 7, 3) := by decide +kernel
theorem dX6_bestRow_41 : decode cX6_bestRow 41 = .ok (.iconst 0, 1) := by decide +kernel
theorem dX6_bestRow_42 : decode cX6_bestRow 42 = .ok (.aload_n 0, 1) := by decide +kernel
theorem dX6_bestRow_43 : decode cX6_bestRow 43 = .ok (.getfield 13, 3) := by decide +kernel
theorem dX6_bestRow_46 : decode cX6_bestRow 46 = .ok (.iconst 0, 1) := by decide +kernel
theorem dX6_bestRow_47 : decode cX6_bestRow 47 = .ok (.invokestatic 38, 3) := by decide +kernel
theorem dX6_bestRow_50 : decode cX6_bestRow 50 = .ok (.iconst 0, 1) := by decide +kernel
theorem dX6_bestRow_51 : decode cX6_bestRow 51 = .ok (.istore 5, 2) := by decide +kernel
theorem dX6_bestRow_53 : decode cX6_bestRow 53 = .ok (.iconst (-1), 1) := by decide +kernel
theorem dX6_bestRow_54 : decode cX6_bestRow 54 = .ok (.istore 6, 2) := by decide +kernel
theorem dX6_bestRow_56 : decode cX6_bestRow 56 = .ok (.iconst 0, 1) := by decide +kernel
theorem dX6_bestRow_57 : decode cX6_bestRow 57 = .ok (.istore 7, 2) := by decide +kernel
theorem dX6_bestRow_59 : decode cX6_bestRow 59 = .ok (.iload 7, 2) := by decide +kernel
theorem dX6_bestRow_61 : decode cX6_bestRow 61 = .ok (.iconst 1, 1) := by decide +kernel
theorem dX6_bestRow_62 : decode cX6_bestRow 62 = .ok (.iload_n 3, 1) := by decide +kernel
theorem dX6_bestRow_63 : decode cX6_bestRow 63 = .ok (.ishl, 1) := by decide +kernel
theorem dX6_bestRow_64 : decode cX6_bestRow 64 = .ok (.if_icmp .ge 95, 3) := by decide +kernel
theorem dX6_bestRow_67 : decode cX6_bestRow 67 = .ok (.iload_n 3, 1) := by decide +kernel
theorem dX6_bestRow_68 : decode cX6_bestRow 68 = .ok (.iconst 1, 1) := by decide +kernel
theorem dX6_bestRow_69 : decode cX6_bestRow 69 = .ok (.isub, 1) := by decide +kernel
theorem dX6_bestRow_70 : decode cX6_bestRow 70 = .ok (.istore 8, 2) := by decide +kernel
theorem dX6_bestRow_72 : decode cX6_bestRow 72 = .ok (.iload 8, 2) := by decide +kernel
theorem dX6_bestRow_74 : decode cX6_bestRow 74 = .ok (.ifCond .lt 22, 3) := by decide +kernel
theorem dX6_bestRow_77 : decode cX6_bestRow 77 = .ok (.aload_n 0, 1) := by decide +kernel
theorem dX6_bestRow_78 : decode cX6_bestRow 78 = .ok (.iload_n 2, 1) := by decide +kernel
theorem dX6_bestRow_79 : decode cX6_bestRow 79 = .ok (.iload 7, 2) := by decide +kernel
theorem dX6_bestRow_81 : decode cX6_bestRow 81 = .ok (.iload 8, 2) := by decide +kernel
theorem dX6_bestRow_83 : decode cX6_bestRow 83 = .ok (.ishr, 1) := by decide +kernel
theorem dX6_bestRow_84 : decode cX6_bestRow 84 = .ok (.iconst 1, 1) := by decide +kernel
theorem dX6_bestRow_85 : decode cX6_bestRow 85 = .ok (.iand, 1) := by decide +kernel
theorem dX6_bestRow_86 : decode cX6_bestRow 86 = .ok (.invokevirtual 123, 3) := by decide +kernel
theorem dX6_bestRow_89 : decode cX6_bestRow 89 = .ok (.pop, 1) := by decide +kernel
theorem dX6_bestRow_90 : decode cX6_bestRow 90 = .ok (.iinc 8 (-1), 3) := by decide +kernel
theorem dX6_bestRow_93 : decode cX6_bestRow 93 = .ok (.goto (-21), 3) := by decide +kernel
theorem dX6_bestRow_96 : decode cX6_bestRow 96 = .ok (.aload_n 0, 1) := by decide +kernel
theorem dX6_bestRow_97 : decode cX6_bestRow 97 = .ok (.iload_n 1, 1) := by decide +kernel
theorem dX6_bestRow_98 : decode cX6_bestRow 98 = .ok (.iconst 2, 1) := by decide +kernel
theorem dX6_bestRow_99 : decode cX6_bestRow 99 = .ok (.invokevirtual 46, 3) := by decide +kernel
theorem dX6_bestRow_102 : decode cX6_bestRow 102 = .ok (.iload 6, 2) := by decide +kernel
theorem dX6_bestRow_104 : decode cX6_bestRow 104 = .ok (.if_icmp .le 8, 3) := by decide +kernel
theorem dX6_bestRow_107 : decode cX6_bestRow 107 = .ok (.iload 7, 2) := by decide +kernel
theorem dX6_bestRow_109 : decode cX6_bestRow 109 = .ok (.goto 5, 3) := by decide +kernel
theorem dX6_bestRow_112 : decode cX6_bestRow 112 = .ok (.iload 5, 2) := by decide +kernel
theorem dX6_bestRow_114 : decode cX6_bestRow 114 = .ok (.istore 5, 2) := by decide +kernel
theorem dX6_bestRow_116 : decode cX6_bestRow 116 = .ok (.aload_n 0, 1) := by decide +kernel
theorem dX6_bestRow_117 : decode cX6_bestRow 117 = .ok (.iload_n 1, 1) := by decide +kernel
theorem dX6_bestRow_118 : decode cX6_bestRow 118 = .ok (.iconst 2, 1) := by decide +kernel
theorem dX6_bestRow_119 : decode cX6_bestRow 119 = .ok (.invokevirtual 46, 3) := by decide +kernel
theorem dX6_bestRow_122 : decode cX6_bestRow 122 = .ok (.iload 6, 2) := by decide +kernel
theorem dX6_bestRow_124 : decode cX6_bestRow 124 = .ok (.if_icmp .le 12, 3) := by decide +kernel
theorem dX6_bestRow_127 : decode cX6_bestRow 127 = .ok (.aload_n 0, 1) := by decide +kernel
theorem dX6_bestRow_128 : decode cX6_bestRow 128 = .ok (.iload_n 1, 1) := by decide +kernel
theorem dX6_bestRow_129 : decode cX6_bestRow 129 = .ok (.iconst 2, 1) := by decide +kernel
theorem dX6_bestRow_130 : decode cX6_bestRow 130 = .ok (.invokevirtual 46, 3) := by decide +kernel
theorem dX6_bestRow_133 : decode cX6_bestRow 133 = .ok (.goto 5, 3) := by decide +kernel
theorem dX6_bestRow_136 : decode cX6_bestRow 136 = .ok (.iload 6, 2) := by decide +kernel
theorem dX6_bestRow_138 : decode cX6_bestRow 138 = .ok (.istore 6, 2) := by decide +kernel
theorem dX6_bestRow_140 : decode cX6_bestRow 140 = .ok (.aload_n 0, 1) := by decide +kernel
theorem dX6_bestRow_141 : decode cX6_bestRow 141 = .ok (.getfield 13, 3) := by decide +kernel
theorem dX6_bestRow_144 : decode cX6_bestRow 144 = .ok (.iconst 0, 1) := by decide +kernel
theorem dX6_bestRow_145 : decode cX6_bestRow 145 = .ok (.aload_n 0, 1) := by decide +kernel
theorem dX6_bestRow_146 : decode cX6_bestRow 146 = .ok (.getfield 7, 3) := by decide +kernel
theorem dX6_bestRow_149 : decode cX6_bestRow 149 = .ok (.iconst 0, 1) := by decide +kernel
theorem dX6_bestRow_150 : decode cX6_bestRow 150 = .ok (.invokestatic 38, 3) := by decide +kernel
theorem dX6_bestRow_153 : decode cX6_bestRow 153 = .ok (.iinc 7 1, 3) := by decide +kernel
theorem dX6_bestRow_156 : decode cX6_bestRow 156 = .ok (.goto (-97), 3) := by decide +kernel
theorem dX6_bestRow_159 : decode cX6_bestRow 159 = .ok (.iload 4, 2) := by decide +kernel
theorem dX6_bestRow_161 : decode cX6_bestRow 161 = .ok (.ifCond .ne 8, 3) := by decide +kernel
theorem dX6_bestRow_164 : decode cX6_bestRow 164 = .ok (.iload 5, 2) := by decide +kernel
theorem dX6_bestRow_166 : decode cX6_bestRow 166 = .ok (.goto 5, 3) := by decide +kernel
theorem dX6_bestRow_169 : decode cX6_bestRow 169 = .ok (.iload 6, 2) := by decide +kernel
theorem dX6_bestRow_171 : decode cX6_bestRow 171 = .ok (.ireturn, 1) := by decide +kernel
theorem dX6_count_0 : decode cX6_count 0 = .ok (.iconst 0, 1) := by decide +kernel
theorem dX6_count_1 : decode cX6_count 1 = .ok (.istore_n 2, 1) := by decide +kernel
theorem dX6_count_2 : decode cX6_count 2 = .ok (.iconst 0, 1) := by decide +kernel
theorem dX6_count_3 : decode cX6_count 3 = .ok (.istore_n 3, 1) := by decide +kernel
theorem dX6_count_4 : decode cX6_count 4 = .ok (.aload_n 0, 1) := by decide +kernel
theorem dX6_count_5 : decode cX6_count 5 = .ok (.getfield 7, 3) := by decide +kernel
theorem dX6_count_8 : decode cX6_count 8 = .ok (.iconst 4, 1) := by decide +kernel
theorem dX6_count_9 : decode cX6_count 9 = .ok (.iaload, 1) := by decide +kernel
theorem dX6_count_10 : decode cX6_count 10 = .ok (.istore 4, 2) := by decide +kernel
theorem dX6_count_12 : decode cX6_count 12 = .ok (.iconst 0, 1) := by decide +kernel
theorem dX6_count_13 : decode cX6_count 13 = .ok (.istore 5, 2) := by decide +kernel
theorem dX6_count_15 : decode cX6_count 15 = .ok (.iload 5, 2) := by decide +kernel
theorem dX6_count_17 : decode cX6_count 17 = .ok (.aload_n 0, 1) := by decide +kernel
theorem dX6_count_18 : decode cX6_count 18 = .ok (.getfield 7, 3) := by decide +kernel
theorem dX6_count_21 : decode cX6_count 21 = .ok (.bipush 7, 2) := by decide +kernel
theorem dX6_count_23 : decode cX6_count 23 = .ok (.iaload, 1) := by decide +kernel
theorem dX6_count_24 : decode cX6_count 24 = .ok (.if_icmp .ge 56, 3) := by decide +kernel
theorem dX6_count_27 : decode cX6_count 27 = .ok (.iload_n 2, 1) := by decide +kernel
theorem dX6_count_28 : decode cX6_count 28 = .ok (.aload_n 0, 1) := by decide +kernel
theorem dX6_count_29 : decode cX6_count 29 = .ok (.iload 5, 2) := by decide +kernel
theorem dX6_count_31 : decode cX6_count 31 = .ok (.invokevirtual 61, 3) := by decide +kernel
theorem dX6_count_34 : decode cX6_count 34 = .ok (.ifCond .eq 7, 3) := by decide +kernel
theorem dX6_count_37 : decode cX6_count 37 = .ok (.iconst 1, 1) := by decide +kernel
theorem dX6_count_38 : decode cX6_count 38 = .ok (.goto 4, 3) := by decide +kernel
theorem dX6_count_41 : decode cX6_count 41 = .ok (.iconst 0, 1) := by decide +kernel
theorem dX6_count_42 : decode cX6_count 42 = .ok (.iadd, 1) := by decide +kernel
theorem dX6_count_43 : decode cX6_count 43 = .ok (.istore_n 2, 1) := by decide +kernel
theorem dX6_count_44 : decode cX6_count 44 = .ok (.iload_n 3, 1) := by decide +kernel
theorem dX6_count_45 : decode cX6_count 45 = .ok (.aload_n 0, 1) := by decide +kernel
theorem dX6_count_46 : decode cX6_count 46 = .ok (.iload 5, 2) := by decide +kernel
theorem dX6_count_48 : decode cX6_count 48 = .ok (.iconst 2, 1) := by decide +kernel
theorem dX6_count_49 : decode cX6_count 49 = .ok (.invokevirtual 46, 3) := by decide +kernel
theorem dX6_count_52 : decode cX6_count 52 = .ok (.ifCond .ne 7, 3) := by decide +kernel
theorem dX6_count_55 : decode cX6_count 55 = .ok (.iconst 1, 1) := by decide +kernel
theorem dX6_count_56 : decode cX6_count 56 = .ok (.goto 4, 3) := by decide +kernel
theorem dX6_count_59 : decode cX6_count 59 = .ok (.iconst 0, 1) := by decide +kernel
theorem dX6_count_60 : decode cX6_count 60 = .ok (.iadd, 1) := by decide +kernel
theorem dX6_count_61 : decode cX6_count 61 = .ok (.istore_n 3, 1) := by decide +kernel
theorem dX6_count_62 : decode cX6_count 62 = .ok (.iload 4, 2) := by decide +kernel
theorem dX6_count_64 : decode cX6_count 64 = .ok (.aload_n 0, 1) := by decide +kernel
theorem dX6_count_65 : decode cX6_count 65 = .ok (.iload 5, 2) := by decide +kernel
theorem dX6_count_67 : decode cX6_count 67 = .ok (.iconst 2, 1) := by decide +kernel
theorem dX6_count_68 : decode cX6_count 68 = .ok (.invokevirtual 46, 3) := by decide +kernel
theorem dX6_count_71 : decode cX6_count 71 = .ok (.iadd, 1) := by decide +kernel
theorem dX6_count_72 : decode cX6_count 72 = .ok (.istore 4, 2) := by decide +kernel
theorem dX6_count_74 : decode cX6_count 74 = .ok (.iinc 5 1, 3) := by decide +kernel
theorem dX6_count_77 : decode cX6_count 77 = .ok (.goto (-62), 3) := by decide +kernel
theorem dX6_count_80 : decode cX6_count 80 = .ok (.iload_n 1, 1) := by decide +kernel
theorem dX6_count_81 : decode cX6_count 81 = .ok (.tableswitch 181 0 22 #[107, 115, 117, 119, 126, 129, 136, 143, 151, 159, 164, 181, 181, 181, 181, 181, 181, 181, 181, 181, 169, 169, 169], 107) := by decide +kernel
theorem dX6_count_188 : decode cX6_count 188 = .ok (.aload_n 0, 1) := by decide +kernel
theorem dX6_count_189 : decode cX6_count 189 = .ok (.getfield 7, 3) := by decide +kernel
theorem dX6_count_192 : decode cX6_count 192 = .ok (.bipush 7, 2) := by decide +kernel
theorem dX6_count_194 : decode cX6_count 194 = .ok (.iaload, 1) := by decide +kernel
theorem dX6_count_195 : decode cX6_count 195 = .ok (.ireturn, 1) := by decide +kernel
theorem dX6_count_196 : decode cX6_count 196 = .ok (.iload_n 2, 1) := by decide +kernel
theorem dX6_count_197 : decode cX6_count 197 = .ok (.ireturn, 1) := by decide +kernel
theorem dX6_count_198 : decode cX6_count 198 = .ok (.iload_n 3, 1) := by decide +kernel
theorem dX6_count_199 : decode cX6_count 199 = .ok (.ireturn, 1) := by decide +kernel
theorem dX6_count_200 : decode cX6_count 200 = .ok (.aload_n 0, 1) := by decide +kernel
theorem dX6_count_201 : decode cX6_count 201 = .ok (.getfield 7, 3) := by decide +kernel
theorem dX6_count_204 : decode cX6_count 204 = .ok (.iconst 4, 1) := by decide +kernel
theorem dX6_count_205 : decode cX6_count 205 = .ok (.iaload, 1) := by decide +kernel
theorem dX6_count_206 : decode cX6_count 206 = .ok (.ireturn, 1) := by decide +kernel
theorem dX6_count_207 : decode cX6_count 207 = .ok (.iload 4, 2) := by decide +kernel
theorem dX6_count_209 : decode cX6_count 209 = .ok (.ireturn, 1) := by decide +kernel
theorem dX6_count_210 : decode cX6_count 210 = .ok (.aload_n 0, 1) := by decide +kernel
theorem dX6_count_211 : decode cX6_count 211 = .ok (.getfield 7, 3) := by decide +kernel
theorem dX6_count_214 : decode cX6_count 214 = .ok (.iconst 3, 1) := by decide +kernel
theorem dX6_count_215 : decode cX6_count 215 = .ok (.iaload, 1) := by decide +kernel
theorem dX6_count_216 : decode cX6_count 216 = .ok (.ireturn, 1) := by decide +kernel
theorem dX6_count_217 : decode cX6_count 217 = .ok (.aload_n 0, 1) := by decide +kernel
theorem dX6_count_218 : decode cX6_count 218 = .ok (.getfield 7, 3) := by decide +kernel
theorem dX6_count_221 : decode cX6_count 221 = .ok (.iconst 5, 1) := by decide +kernel
theorem dX6_count_222 : decode cX6_count 222 = .ok (.iaload, 1) := by decide +kernel
theorem dX6_count_223 : decode cX6_count 223 = .ok (.ireturn, 1) := by decide +kernel
theorem dX6_count_224 : decode cX6_count 224 = .ok (.aload_n 0, 1) := by decide +kernel
theorem dX6_count_225 : decode cX6_count 225 = .ok (.getfield 7, 3) := by decide +kernel
theorem dX6_count_228 : decode cX6_count 228 = .ok (.bipush 6, 2) := by decide +kernel
theorem dX6_count_230 : decode cX6_count 230 = .ok (.iaload, 1) := by decide +kernel
theorem dX6_count_231 : decode cX6_count 231 = .ok (.ireturn, 1) := by decide +kernel
theorem dX6_count_232 : decode cX6_count 232 = .ok (.aload_n 0, 1) := by decide +kernel
theorem dX6_count_233 : decode cX6_count 233 = .ok (.getfield 7, 3) := by decide +kernel
theorem dX6_count_236 : decode cX6_count 236 = .ok (.bipush 8, 2) := by decide +kernel
theorem dX6_count_238 : decode cX6_count 238 = .ok (.iaload, 1) := by decide +kernel
theorem dX6_count_239 : decode cX6_count 239 = .ok (.ireturn, 1) := by decide +kernel
theorem dX6_count_240 : decode cX6_count 240 = .ok (.aload_n 0, 1) := by decide +kernel
theorem dX6_count_241 : decode cX6_count 241 = .ok (.getfield 34, 3) := by decide +kernel
theorem dX6_count_244 : decode cX6_count 244 = .ok (.ireturn, 1) := by decide +kernel
theorem dX6_count_245 : decode cX6_count 245 = .ok (.aload_n 0, 1) := by decide +kernel
theorem dX6_count_246 : decode cX6_count 246 = .ok (.getfield 140, 3) := by decide +kernel
theorem dX6_count_249 : decode cX6_count 249 = .ok (.ireturn, 1) := by decide +kernel
theorem dX6_count_250 : decode cX6_count 250 = .ok (.aload_n 0, 1) := by decide +kernel
theorem dX6_count_251 : decode cX6_count 251 = .ok (.getfield 7, 3) := by decide +kernel
theorem dX6_count_254 : decode cX6_count 254 = .ok (.iconst 0, 1) := by decide +kernel
theorem dX6_count_255 : decode cX6_count 255 = .ok (.iload_n 1, 1) := by decide +kernel
theorem dX6_count_256 : decode cX6_count 256 = .ok (.iadd, 1) := by decide +kernel
theorem dX6_count_257 : decode cX6_count 257 = .ok (.bipush 20, 2) := by decide +kernel
theorem dX6_count_259 : decode cX6_count 259 = .ok (.isub, 1) := by decide +kernel
theorem dX6_count_260 : decode cX6_count 260 = .ok (.iaload, 1) := by decide +kernel
theorem dX6_count_261 : decode cX6_count 261 = .ok (.ireturn, 1) := by decide +kernel
theorem dX6_count_262 : decode cX6_count 262 = .ok (.ldc 77, 2) := by decide +kernel
theorem dX6_count_264 : decode cX6_count 264 = .ok (.ireturn, 1) := by decide +kernel
theorem dX6_undo_0 : decode cX6_undo 0 = .ok (.aload_n 0, 1) := by decide +kernel
theorem dX6_undo_1 : decode cX6_undo 1 = .ok (.getfield 34, 3) := by decide +kernel
theorem dX6_undo_4 : decode cX6_undo 4 = .ok (.ifCond .ne 6, 3) := by decide +kernel
theorem dX6_undo_7 : decode cX6_undo 7 = .ok (.ldc 89, 2) := by decide +kernel
theorem dX6_undo_9 : decode cX6_undo 9 = .ok (.ireturn, 1) := by decide +kernel
theorem dX6_undo_10 : decode cX6_undo 10 = .ok (.aload_n 0, 1) := by decide +kernel
theorem dX6_undo_11 : decode cX6_undo 11 = .ok (.dup, 1) := by decide +kernel
theorem dX6_undo_12 : decode cX6_undo 12 = .ok (.getfield 34, 3) := by decide +kernel
theorem dX6_undo_15 : decode cX6_undo 15 = .ok (.iconst 1, 1) := by decide +kernel
theorem dX6_undo_16 : decode cX6_undo 16 = .ok (.isub, 1) := by decide +kernel
theorem dX6_undo_17 : decode cX6_undo 17 = .ok (.putfield 34, 3) := by decide +kernel
theorem dX6_undo_20 : decode cX6_undo 20 = .ok (.aload_n 0, 1) := by decide +kernel
theorem dX6_undo_21 : decode cX6_undo 21 = .ok (.getfield 16, 3) := by decide +kernel
theorem dX6_undo_24 : decode cX6_undo 24 = .ok (.aload_n 0, 1) := by decide +kernel
theorem dX6_undo_25 : decode cX6_undo 25 = .ok (.getfield 34, 3) := by decide +kernel
theorem dX6_undo_28 : decode cX6_undo 28 = .ok (.sipush 349, 3) := by decide +kernel
theorem dX6_undo_31 : decode cX6_undo 31 = .ok (.imul, 1) := by decide +kernel
theorem dX6_undo_32 : decode cX6_undo 32 = .ok (.aload_n 0, 1) := by decide +kernel
theorem dX6_undo_33 : decode cX6_undo 33 = .ok (.getfield 7, 3) := by decide +kernel
theorem dX6_undo_36 : decode cX6_undo 36 = .ok (.iconst 0, 1) := by decide +kernel
theorem dX6_undo_37 : decode cX6_undo 37 = .ok (.invokestatic 38, 3) := by decide +kernel
theorem dX6_undo_40 : decode cX6_undo 40 = .ok (.aload_n 0, 1) := by decide +kernel
theorem dX6_undo_41 : decode cX6_undo 41 = .ok (.getfield 34, 3) := by decide +kernel
theorem dX6_undo_44 : decode cX6_undo 44 = .ok (.ireturn, 1) := by decide +kernel
theorem dX6_type_0 : decode cX6_type 0 = .ok (.iload_n 1, 1) := by decide +kernel
theorem dX6_type_1 : decode cX6_type 1 = .ok (.bipush 32, 2) := by decide +kernel
theorem dX6_type_3 : decode cX6_type 3 = .ok (.bipush 126, 2) := by decide +kernel
theorem dX6_type_5 : decode cX6_type 5 = .ok (.invokestatic 42, 3) := by decide +kernel
theorem dX6_type_8 : decode cX6_type 8 = .ok (.ifCond .ne 6, 3) := by decide +kernel
theorem dX6_type_11 : decode cX6_type 11 = .ok (.ldc 77, 2) := by decide +kernel
theorem dX6_type_13 : decode cX6_type 13 = .ok (.ireturn, 1) := by decide +kernel
theorem dX6_type_14 : decode cX6_type 14 = .ok (.aload_n 0, 1) := by decide +kernel
theorem dX6_type_15 : decode cX6_type 15 = .ok (.getfield 140, 3) := by decide +kernel
theorem dX6_type_18 : decode cX6_type 18 = .ok (.bipush 80, 2) := by decide +kernel
theorem dX6_type_20 : decode cX6_type 20 = .ok (.if_icmp .ne 6, 3) := by decide +kernel
theorem dX6_type_23 : decode cX6_type 23 = .ok (.ldc 81, 2) := by decide +kernel
theorem dX6_type_25 : decode cX6_type 25 = .ok (.ireturn, 1) := by decide +kernel
theorem dX6_type_26 : decode cX6_type 26 = .ok (.aload_n 0, 1) := by decide +kernel
theorem dX6_type_27 : decode cX6_type 27 = .ok (.getfield 19, 3) := by decide +kernel
theorem dX6_type_30 : decode cX6_type 30 = .ok (.aload_n 0, 1) := by decide +kernel
theorem dX6_type_31 : decode cX6_type 31 = .ok (.getfield 140, 3) := by decide +kernel
theorem dX6_type_34 : decode cX6_type 34 = .ok (.iload_n 1, 1) := by decide +kernel
theorem dX6_type_35 : decode cX6_type 35 = .ok (.iastore, 1) := by decide +kernel
theorem dX6_type_36 : decode cX6_type 36 = .ok (.aload_n 0, 1) := by decide +kernel
theorem dX6_type_37 : decode cX6_type 37 = .ok (.dup, 1) := by decide +kernel
theorem dX6_type_38 : decode cX6_type 38 = .ok (.getfield 140, 3) := by decide +kernel
theorem dX6_type_41 : decode cX6_type 41 = .ok (.iconst 1, 1) := by decide +kernel
theorem dX6_type_42 : decode cX6_type 42 = .ok (.iadd, 1) := by decide +kernel
theorem dX6_type_43 : decode cX6_type 43 = .ok (.putfield 140, 3) := by decide +kernel
theorem dX6_type_46 : decode cX6_type 46 = .ok (.aload_n 0, 1) := by decide +kernel
theorem dX6_type_47 : decode cX6_type 47 = .ok (.getfield 140, 3) := by decide +kernel
theorem dX6_type_50 : decode cX6_type 50 = .ok (.ireturn, 1) := by decide +kernel
theorem dX6_clearText_0 : decode cX6_clearText 0 = .ok (.aload_n 0, 1) := by decide +kernel
theorem dX6_clearText_1 : decode cX6_clearText 1 = .ok (.getfield 140, 3) := by decide +kernel
theorem dX6_clearText_4 : decode cX6_clearText 4 = .ok (.istore_n 1, 1) := by decide +kernel
theorem dX6_clearText_5 : decode cX6_clearText 5 = .ok (.aload_n 0, 1) := by decide +kernel
theorem dX6_clearText_6 : decode cX6_clearText 6 = .ok (.iconst 0, 1) := by decide +kernel
theorem dX6_clearText_7 : decode cX6_clearText 7 = .ok (.putfield 140, 3) := by decide +kernel
theorem dX6_clearText_10 : decode cX6_clearText 10 = .ok (.iload_n 1, 1) := by decide +kernel
theorem dX6_clearText_11 : decode cX6_clearText 11 = .ok (.ireturn, 1) := by decide +kernel
theorem dX6_character_0 : decode cX6_character 0 = .ok (.iload_n 1, 1) := by decide +kernel
theorem dX6_character_1 : decode cX6_character 1 = .ok (.aload_n 0, 1) := by decide +kernel
theorem dX6_character_2 : decode cX6_character 2 = .ok (.getfield 140, 3) := by decide +kernel
theorem dX6_character_5 : decode cX6_character 5 = .ok (.if_icmp .ge 12, 3) := by decide +kernel
theorem dX6_character_8 : decode cX6_character 8 = .ok (.aload_n 0, 1) := by decide +kernel
theorem dX6_character_9 : decode cX6_character 9 = .ok (.getfield 19, 3) := by decide +kernel
theorem dX6_character_12 : decode cX6_character 12 = .ok (.iload_n 1, 1) := by decide +kernel
theorem dX6_character_13 : decode cX6_character 13 = .ok (.iaload, 1) := by decide +kernel
theorem dX6_character_14 : decode cX6_character 14 = .ok (.goto 4, 3) := by decide +kernel
theorem dX6_character_17 : decode cX6_character 17 = .ok (.iconst (-1), 1) := by decide +kernel
theorem dX6_character_18 : decode cX6_character 18 = .ok (.ireturn, 1) := by decide +kernel
theorem dX6_isLetter_0 : decode cX6_isLetter 0 = .ok (.aload_n 0, 1) := by decide +kernel
theorem dX6_isLetter_1 : decode cX6_isLetter 1 = .ok (.iload_n 1, 1) := by decide +kernel
theorem dX6_isLetter_2 : decode cX6_isLetter 2 = .ok (.invokevirtual 143, 3) := by decide +kernel
theorem dX6_isLetter_5 : decode cX6_isLetter 5 = .ok (.bipush 97, 2) := by decide +kernel
theorem dX6_isLetter_7 : decode cX6_isLetter 7 = .ok (.bipush 122, 2) := by decide +kernel
theorem dX6_isLetter_9 : decode cX6_isLetter 9 = .ok (.invokestatic 42, 3) := by decide +kernel
theorem dX6_isLetter_12 : decode cX6_isLetter 12 = .ok (.ireturn, 1) := by decide +kernel
theorem dX6_isWord_0 : decode cX6_isWord 0 = .ok (.aload_n 0, 1) := by decide +kernel
theorem dX6_isWord_1 : decode cX6_isWord 1 = .ok (.aload_n 0, 1) := by decide +kernel
theorem dX6_isWord_2 : decode cX6_isWord 2 = .ok (.getfield 146, 3) := by decide +kernel
theorem dX6_isWord_5 : decode cX6_isWord 5 = .ok (.invokevirtual 143, 3) := by decide +kernel
theorem dX6_isWord_8 : decode cX6_isWord 8 = .ok (.iload_n 2, 1) := by decide +kernel
theorem dX6_isWord_9 : decode cX6_isWord 9 = .ok (.if_icmp .ne 36, 3) := by decide +kernel
theorem dX6_isWord_12 : decode cX6_isWord 12 = .ok (.aload_n 0, 1) := by decide +kernel
theorem dX6_isWord_13 : decode cX6_isWord 13 = .ok (.aload_n 0, 1) := by decide +kernel
theorem dX6_isWord_14 : decode cX6_isWord 14 = .ok (.getfield 146, 3) := by decide +kernel
theorem dX6_isWord_17 : decode cX6_isWord 17 = .ok (.iconst 1, 1) := by decide +kernel
theorem dX6_isWord_18 : decode cX6_isWord 18 = .ok (.iadd, 1) := by decide +kernel
theorem dX6_isWord_19 : decode cX6_isWord 19 = .ok (.invokevirtual 143, 3) := by decide +kernel
theorem dX6_isWord_22 : decode cX6_isWord 22 = .ok (.iload_n 3, 1) := by decide +kernel
theorem dX6_isWord_23 : decode cX6_isWord 23 = .ok (.if_icmp .ne 22, 3) := by decide +kernel
theorem dX6_isWord_26 : decode cX6_isWord 26 = .ok (.aload_n 0, 1) := by decide +kernel
theorem dX6_isWord_27 : decode cX6_isWord 27 = .ok (.aload_n 0, 1) := by decide +kernel
theorem dX6_isWord_28 : decode cX6_isWord 28 = .ok (.getfield 146, 3) := by decide +kernel
theorem dX6_isWord_31 : decode cX6_isWord 31 = .ok (.iconst 2, 1) := by decide +kernel
theorem dX6_isWord_32 : decode cX6_isWord 32 = .ok (.iadd, 1) := by decide +kernel
theorem dX6_isWord_33 : decode cX6_isWord 33 = .ok (.invokevirtual 143, 3) := by decide +kernel
theorem dX6_isWord_36 : decode cX6_isWord 36 = .ok (.iload 4, 2) := by decide +kernel
theorem dX6_isWord_38 : decode cX6_isWord 38 = .ok (.if_icmp .ne 7, 3) := by decide +kernel
theorem dX6_isWord_41 : decode cX6_isWord 41 = .ok (.iconst 1, 1) := by decide +kernel
theorem dX6_isWord_42 : decode cX6_isWord 42 = .ok (.goto 4, 3) := by decide +kernel
theorem dX6_isWord_45 : decode cX6_isWord 45 = .ok (.iconst 0, 1) := by decide +kernel
theorem dX6_isWord_46 : decode cX6_isWord 46 = .ok (.istore 6, 2) := by decide +kernel
theorem dX6_isWord_48 : decode cX6_isWord 48 = .ok (.iload 6, 2) := by decide +kernel
theorem dX6_isWord_50 : decode cX6_isWord 50 = .ok (.ifCond .eq 40, 3) := by decide +kernel
theorem dX6_isWord_53 : decode cX6_isWord 53 = .ok (.iload 5, 2) := by decide +kernel
theorem dX6_isWord_55 : decode cX6_isWord 55 = .ok (.ifCond .ne 11, 3) := by decide +kernel
theorem dX6_isWord_58 : decode cX6_isWord 58 = .ok (.iload_n 1, 1) := by decide +kernel
theorem dX6_isWord_59 : decode cX6_isWord 59 = .ok (.iconst 3, 1) := by decide +kernel
theorem dX6_isWord_60 : decode cX6_isWord 60 = .ok (.if_icmp .ne 30, 3) := by decide +kernel
theorem dX6_isWord_63 : decode cX6_isWord 63 = .ok (.goto 23, 3) := by decide +kernel
theorem dX6_isWord_66 : decode cX6_isWord 66 = .ok (.iload_n 1, 1) := by decide +kernel
theorem dX6_isWord_67 : decode cX6_isWord 67 = .ok (.iconst 4, 1) := by decide +kernel
theorem dX6_isWord_68 : decode cX6_isWord 68 = .ok (.if_icmp .ne 22, 3) := by decide +kernel
theorem dX6_isWord_71 : decode cX6_isWord 71 = .ok (.aload_n 0, 1) := by decide +kernel
theorem dX6_isWord_72 : decode cX6_isWord 72 = .ok (.aload_n 0, 1) := by decide +kernel
theorem dX6_isWord_73 : decode cX6_isWord 73 = .ok (.getfield 146, 3) := by decide +kernel
theorem dX6_isWord_76 : decode cX6_isWord 76 = .ok (.iconst 3, 1) := by decide +kernel
theorem dX6_isWord_77 : decode cX6_isWord 77 = .ok (.iadd, 1) := by decide +kernel
theorem dX6_isWord_78 : decode cX6_isWord 78 = .ok (.invokevirtual 143, 3) := by decide +kernel
theorem dX6_isWord_81 : decode cX6_isWord 81 = .ok (.iload 5, 2) := by decide +kernel
theorem dX6_isWord_83 : decode cX6_isWord 83 = .ok (.if_icmp .ne 7, 3) := by decide +kernel
theorem dX6_isWord_86 : decode cX6_isWord 86 = .ok (.iconst 1, 1) := by decide +kernel
theorem dX6_isWord_87 : decode cX6_isWord 87 = .ok (.goto 4, 3) := by decide +kernel
theorem dX6_isWord_90 : decode cX6_isWord 90 = .ok (.iconst 0, 1) := by decide +kernel
theorem dX6_isWord_91 : decode cX6_isWord 91 = .ok (.ireturn, 1) := by decide +kernel
theorem dX6_orderOf_0 : decode cX6_orderOf 0 = .ok (.aload_n 0, 1) := by decide +kernel
theorem dX6_orderOf_1 : decode cX6_orderOf 1 = .ok (.iload_n 1, 1) := by decide +kernel
theorem dX6_orderOf_2 : decode cX6_orderOf 2 = .ok (.bipush 116, 2) := by decide +kernel
theorem dX6_orderOf_4 : decode cX6_orderOf 4 = .ok (.bipush 97, 2) := by decide +kernel
theorem dX6_orderOf_6 : decode cX6_orderOf 6 = .ok (.bipush 107, 2) := by decide +kernel
theorem dX6_orderOf_8 : decode cX6_orderOf 8 = .ok (.bipush 101, 2) := by decide +kernel
theorem dX6_orderOf_10 : decode cX6_orderOf 10 = .ok (.invokevirtual 149, 3) := by decide +kernel
theorem dX6_orderOf_13 : decode cX6_orderOf 13 = .ok (.ifCond .eq 5, 3) := by decide +kernel
theorem dX6_orderOf_16 : decode cX6_orderOf 16 = .ok (.iconst 0, 1) := by decide +kernel
theorem dX6_orderOf_17 : decode cX6_orderOf 17 = .ok (.ireturn, 1) := by decide +kernel
theorem dX6_orderOf_18 : decode cX6_orderOf 18 = .ok (.aload_n 0, 1) := by decide +kernel
theorem dX6_orderOf_19 : decode cX6_orderOf 19 = .ok (.iload_n 1, 1) := by decide +kernel
theorem dX6_orderOf_20 : decode cX6_orderOf 20 = .ok (.bipush 115, 2) := by decide +kernel
theorem dX6_orderOf_22 : decode cX6_orderOf 22 = .ok (.bipush 107, 2) := by decide +kernel
theorem dX6_orderOf_24 : decode cX6_orderOf 24 = .ok (.bipush 105, 2) := by decide +kernel
theorem dX6_orderOf_26 : decode cX6_orderOf 26 = .ok (.bipush 112, 2) := by decide +kernel
theorem dX6_orderOf_28 : decode cX6_orderOf 28 = .ok (.invokevirtual 149, 3) := by decide +kernel
theorem dX6_orderOf_31 : decode cX6_orderOf 31 = .ok (.ifCond .eq 5, 3) := by decide +kernel
theorem dX6_orderOf_34 : decode cX6_orderOf 34 = .ok (.iconst 1, 1) := by decide +kernel
theorem dX6_orderOf_35 : decode cX6_orderOf 35 = .ok (.ireturn, 1) := by decide +kernel
theorem dX6_orderOf_36 : decode cX6_orderOf 36 = .ok (.aload_n 0, 1) := by decide +kernel
theorem dX6_orderOf_37 : decode cX6_orderOf 37 = .ok (.iload_n 1, 1) := by decide +kernel
theorem dX6_orderOf_38 : decode cX6_orderOf 38 = .ok (.bipush 102, 2) := by decide +kernel
theorem dX6_orderOf_40 : decode cX6_orderOf 40 = .ok (.bipush 108, 2) := by decide +kernel
theorem dX6_orderOf_42 : decode cX6_orderOf 42 = .ok (.bipush 105, 2) := by decide +kernel
theorem dX6_orderOf_44 : decode cX6_orderOf 44 = .ok (.bipush 112, 2) := by decide +kernel
theorem dX6_orderOf_46 : decode cX6_orderOf 46 = .ok (.invokevirtual 149, 3) := by decide +kernel
theorem dX6_orderOf_49 : decode cX6_orderOf 49 = .ok (.ifCond .eq 5, 3) := by decide +kernel
theorem dX6_orderOf_52 : decode cX6_orderOf 52 = .ok (.iconst 2, 1) := by decide +kernel
theorem dX6_orderOf_53 : decode cX6_orderOf 53 = .ok (.ireturn, 1) := by decide +kernel
theorem dX6_orderOf_54 : decode cX6_orderOf 54 = .ok (.aload_n 0, 1) := by decide +kernel
theorem dX6_orderOf_55 : decode cX6_orderOf 55 = .ok (.iload_n 1, 1) := by decide +kernel
theorem dX6_orderOf_56 : decode cX6_orderOf 56 = .ok (.bipush 108, 2) := by decide +kernel
theorem dX6_orderOf_58 : decode cX6_orderOf 58 = .ok (.bipush 111, 2) := by decide +kernel
theorem dX6_orderOf_60 : decode cX6_orderOf 60 = .ok (.bipush 111, 2) := by decide +kernel
theorem dX6_orderOf_62 : decode cX6_orderOf 62 = .ok (.bipush 112, 2) := by decide +kernel
theorem dX6_orderOf_64 : decode cX6_orderOf 64 = .ok (.invokevirtual 149, 3) := by decide +kernel
theorem dX6_orderOf_67 : decode cX6_orderOf 67 = .ok (.ifCond .eq 5, 3) := by decide +kernel
theorem dX6_orderOf_70 : decode cX6_orderOf 70 = .ok (.iconst 3, 1) := by decide +kernel
theorem dX6_orderOf_71 : decode cX6_orderOf 71 = .ok (.ireturn, 1) := by decide +kernel
theorem dX6_orderOf_72 : decode cX6_orderOf 72 = .ok (.aload_n 0, 1) := by decide +kernel
theorem dX6_orderOf_73 : decode cX6_orderOf 73 = .ok (.iload_n 1, 1) := by decide +kernel
theorem dX6_orderOf_74 : decode cX6_orderOf 74 = .ok (.bipush 99, 2) := by decide +kernel
theorem dX6_orderOf_76 : decode cX6_orderOf 76 = .ok (.bipush 117, 2) := by decide +kernel
theorem dX6_orderOf_78 : decode cX6_orderOf 78 = .ok (.bipush 116, 2) := by decide +kernel
theorem dX6_orderOf_80 : decode cX6_orderOf 80 = .ok (.iconst 0, 1) := by decide +kernel
theorem dX6_orderOf_81 : decode cX6_orderOf 81 = .ok (.invokevirtual 149, 3) := by decide +kernel
theorem dX6_orderOf_84 : decode cX6_orderOf 84 = .ok (.ifCond .eq 7, 3) := by decide +kernel
theorem dX6_orderOf_87 : decode cX6_orderOf 87 = .ok (.iconst 4, 1) := by decide +kernel
theorem dX6_orderOf_88 : decode cX6_orderOf 88 = .ok (.goto 4, 3) := by decide +kernel
theorem dX6_orderOf_91 : decode cX6_orderOf 91 = .ok (.iconst (-1), 1) := by decide +kernel
theorem dX6_orderOf_92 : decode cX6_orderOf 92 = .ok (.ireturn, 1) := by decide +kernel
theorem dX6_number_0 : decode cX6_number 0 = .ok (.aload_n 0, 1) := by decide +kernel
theorem dX6_number_1 : decode cX6_number 1 = .ok (.aload_n 0, 1) := by decide +kernel
theorem dX6_number_2 : decode cX6_number 2 = .ok (.getfield 153, 3) := by decide +kernel
theorem dX6_number_5 : decode cX6_number 5 = .ok (.invokevirtual 143, 3) := by decide +kernel
theorem dX6_number_8 : decode cX6_number 8 = .ok (.bipush 32, 2) := by decide +kernel
theorem dX6_number_10 : decode cX6_number 10 = .ok (.if_icmp .eq 5, 3) := by decide +kernel
theorem dX6_number_13 : decode cX6_number 13 = .ok (.iconst (-1), 1) := by decide +kernel
theorem dX6_number_14 : decode cX6_number 14 = .ok (.ireturn, 1) := by decide +kernel
theorem dX6_number_15 : decode cX6_number 15 = .ok (.aload_n 0, 1) := by decide +kernel
theorem dX6_number_16 : decode cX6_number 16 = .ok (.dup, 1) := by decide +kernel
theorem dX6_number_17 : decode cX6_number 17 = .ok (.getfield 153, 3) := by decide +kernel
theorem dX6_number_20 : decode cX6_number 20 = .ok (.iconst 1, 1) := by decide +kernel
theorem dX6_number_21 : decode cX6_number 21 = .ok (.iadd, 1) := by decide +kernel
theorem dX6_number_22 : decode cX6_number 22 = .ok (.putfield 153, 3) := by decide +kernel
theorem dX6_number_25 : decode cX6_number 25 = .ok (.iconst (-1), 1) := by decide +kernel
theorem dX6_number_26 : decode cX6_number 26 = .ok (.istore_n 1, 1) := by decide +kernel
theorem dX6_number_27 : decode cX6_number 27 = .ok (.iconst 0, 1) := by decide +kernel
theorem dX6_number_28 : decode cX6_number 28 = .ok (.istore_n 2, 1) := by decide +kernel
theorem dX6_number_29 : decode cX6_number 29 = .ok (.iload_n 2, 1) := by decide +kernel
theorem dX6_number_30 : decode cX6_number 30 = .ok (.iconst 2, 1) := by decide +kernel
theorem dX6_number_31 : decode cX6_number 31 = .ok (.if_icmp .ge 63, 3) := by decide +kernel
theorem dX6_number_34 : decode cX6_number 34 = .ok (.aload_n 0, 1) := by decide +kernel
theorem dX6_number_35 : decode cX6_number 35 = .ok (.aload_n 0, 1) := by decide +kernel
theorem dX6_number_36 : decode cX6_number 36 = .ok (.getfield 153, 3) := by decide +kernel
theorem dX6_number_39 : decode cX6_number 39 = .ok (.invokevirtual 143, 3) := by decide +kernel
theorem dX6_number_42 : decode cX6_number 42 = .ok (.bipush 48, 2) := by decide +kernel
theorem dX6_number_44 : decode cX6_number 44 = .ok (.bipush 57, 2) := by decide +kernel
theorem dX6_number_46 : decode cX6_number 46 = .ok (.invokestatic 42, 3) := by decide +kernel
theorem dX6_number_49 : decode cX6_number 49 = .ok (.ifCond .eq 45, 3) := by decide +kernel
theorem dX6_number_52 : decode cX6_number 52 = .ok (.iload_n 1, 1) := by decide +kernel
theorem dX6_number_53 : decode cX6_number 53 = .ok (.iconst (-1), 1) := by decide +kernel
theorem dX6_number_54 : decode cX6_number 54 = .ok (.if_icmp .ne 7, 3) := by decide +kernel
theorem dX6_number_57 : decode cX6_number 57 = .ok (.iconst 0, 1) := by decide +kernel
theorem dX6_number_58 : decode cX6_number 58 = .ok (.goto 7, 3) := by decide +kernel
theorem dX6_number_61 : decode cX6_number 61 = .ok (.bipush 10, 2) := by decide +kernel
theorem dX6_number_63 : decode cX6_number 63 = .ok (.iload_n 1, 1) := by decide +kernel
theorem dX6_number_64 : decode cX6_number 64 = .ok (.imul, 1) := by decide +kernel
theorem dX6_number_65 : decode cX6_number 65 = .ok (.aload_n 0, 1) := by decide +kernel
theorem dX6_number_66 : decode cX6_number 66 = .ok (.aload_n 0, 1) := by decide +kernel
theorem dX6_number_67 : decode cX6_number 67 = .ok (.getfield 153, 3) := by decide +kernel
theorem dX6_number_70 : decode cX6_number 70 = .ok (.invokevirtual 143, 3) := by decide +kernel
theorem dX6_number_73 : decode cX6_number 73 = .ok (.iadd, 1) := by decide +kernel
theorem dX6_number_74 : decode cX6_number 74 = .ok (.bipush 48, 2) := by decide +kernel
theorem dX6_number_76 : decode cX6_number 76 = .ok (.isub, 1) := by decide +kernel
theorem dX6_number_77 : decode cX6_number 77 = .ok (.istore_n 1, 1) := by decide +kernel
theorem dX6_number_78 : decode cX6_number 78 = .ok (.aload_n 0, 1) := by decide +kernel
theorem dX6_number_79 : decode cX6_number 79 = .ok (.dup, 1) := by decide +kernel
theorem dX6_number_80 : decode cX6_number 80 = .ok (.getfield 153, 3) := by decide +kernel
theorem dX6_number_83 : decode cX6_number 83 = .ok (.iconst 1, 1) := by decide +kernel
theorem dX6_number_84 : decode cX6_number 84 = .ok (.iadd, 1) := by decide +kernel
theorem dX6_number_85 : decode cX6_number 85 = .ok (.putfield 153, 3) := by decide +kernel
theorem dX6_number_88 : decode cX6_number 88 = .ok (.iinc 2 1, 3) := by decide +kernel
theorem dX6_number_91 : decode cX6_number 91 = .ok (.goto (-62), 3) := by decide +kernel
theorem dX6_number_94 : decode cX6_number 94 = .ok (.iload_n 1, 1) := by decide +kernel
theorem dX6_number_95 : decode cX6_number 95 = .ok (.ireturn, 1) := by decide +kernel
theorem dX6_isOfForm_0 : decode cX6_isOfForm 0 = .ok (.iconst 0, 1) := by decide +kernel
theorem dX6_isOfForm_1 : decode cX6_isOfForm 1 = .ok (.istore_n 1, 1) := by decide +kernel
theorem dX6_isOfForm_2 : decode cX6_isOfForm 2 = .ok (.aload_n 0, 1) := by decide +kernel
theorem dX6_isOfForm_3 : decode cX6_isOfForm 3 = .ok (.aload_n 0, 1) := by decide +kernel
theorem dX6_isOfForm_4 : decode cX6_isOfForm 4 = .ok (.getfield 146, 3) := by decide +kernel
theorem dX6_isOfForm_7 : decode cX6_isOfForm 7 = .ok (.iload_n 1, 1) := by decide +kernel
theorem dX6_isOfForm_8 : decode cX6_isOfForm 8 = .ok (.iadd, 1) := by decide +kernel
theorem dX6_isOfForm_9 : decode cX6_isOfForm 9 = .ok (.invokevirtual 156, 3) := by decide +kernel
theorem dX6_isOfForm_12 : decode cX6_isOfForm 12 = .ok (.ifCond .eq 9, 3) := by decide +kernel
theorem dX6_isOfForm_15 : decode cX6_isOfForm 15 = .ok (.iinc 1 1, 3) := by decide +kernel
theorem dX6_isOfForm_18 : decode cX6_isOfForm 18 = .ok (.goto (-16), 3) := by decide +kernel
theorem dX6_isOfForm_21 : decode cX6_isOfForm 21 = .ok (.aload_n 0, 1) := by decide +kernel
theorem dX6_isOfForm_22 : decode cX6_isOfForm 22 = .ok (.aload_n 0, 1) := by decide +kernel
theorem dX6_isOfForm_23 : decode cX6_isOfForm 23 = .ok (.iload_n 1, 1) := by decide +kernel
theorem dX6_isOfForm_24 : decode cX6_isOfForm 24 = .ok (.invokevirtual 159, 3) := by decide +kernel
theorem dX6_isOfForm_27 : decode cX6_isOfForm 27 = .ok (.putfield 162, 3) := by decide +kernel
theorem dX6_isOfForm_30 : decode cX6_isOfForm 30 = .ok (.aload_n 0, 1) := by decide +kernel
theorem dX6_isOfForm_31 : decode cX6_isOfForm 31 = .ok (.aload_n 0, 1) := by decide +kernel
theorem dX6_isOfForm_32 : decode cX6_isOfForm 32 = .ok (.getfield 146, 3) := by decide +kernel
theorem dX6_isOfForm_35 : decode cX6_isOfForm 35 = .ok (.iload_n 1, 1) := by decide +kernel
theorem dX6_isOfForm_36 : decode cX6_isOfForm 36 = .ok (.iadd, 1) := by decide +kernel
theorem dX6_isOfForm_37 : decode cX6_isOfForm 37 = .ok (.putfield 153, 3) := by decide +kernel
theorem dX6_isOfForm_40 : decode cX6_isOfForm 40 = .ok (.aload_n 0, 1) := by decide +kernel
theorem dX6_isOfForm_41 : decode cX6_isOfForm 41 = .ok (.iconst 0, 1) := by decide +kernel
theorem dX6_isOfForm_42 : decode cX6_isOfForm 42 = .ok (.putfield 165, 3) := by decide +kernel
theorem dX6_isOfForm_45 : decode cX6_isOfForm 45 = .ok (.aload_n 0, 1) := by decide +kernel
theorem dX6_isOfForm_46 : decode cX6_isOfForm 46 = .ok (.iconst 0, 1) := by decide +kernel
theorem dX6_isOfForm_47 : decode cX6_isOfForm 47 = .ok (.putfield 168, 3) := by decide +kernel
theorem dX6_isOfForm_50 : decode cX6_isOfForm 50 = .ok (.aload_n 0, 1) := by decide +kernel
theorem dX6_isOfForm_51 : decode cX6_isOfForm 51 = .ok (.getfield 162, 3) := by decide +kernel
theorem dX6_isOfForm_54 : decode cX6_isOfForm 54 = .ok (.iconst (-1), 1) := by decide +kernel
theorem dX6_isOfForm_55 : decode cX6_isOfForm 55 = .ok (.if_icmp .ne 13, 3) := by decide +kernel
theorem dX6_isOfForm_58 : decode cX6_isOfForm 58 = .ok (.aload_n 0, 1) := by decide +kernel
theorem dX6_isOfForm_59 : decode cX6_isOfForm 59 = .ok (.aload_n 0, 1) := by decide +kernel
theorem dX6_isOfForm_60 : decode cX6_isOfForm 60 = .ok (.getfield 146, 3) := by decide +kernel
theorem dX6_isOfForm_63 : decode cX6_isOfForm 63 = .ok (.putfield 153, 3) := by decide +kernel
theorem dX6_isOfForm_66 : decode cX6_isOfForm 66 = .ok (.iconst 0, 1) := by decide +kernel
theorem dX6_isOfForm_67 : decode cX6_isOfForm 67 = .ok (.ireturn, 1) := by decide +kernel
theorem dX6_isOfForm_68 : decode cX6_isOfForm 68 = .ok (.aload_n 0, 1) := by decide +kernel
theorem dX6_isOfForm_69 : decode cX6_isOfForm 69 = .ok (.aload_n 0, 1) := by decide +kernel
theorem dX6_isOfForm_70 : decode cX6_isOfForm 70 = .ok (.invokevirtual 171, 3) := by decide +kernel
theorem dX6_isOfForm_73 : decode cX6_isOfForm 73 = .ok (.putfield 165, 3) := by decide +kernel
theorem dX6_isOfForm_76 : decode cX6_isOfForm 76 = .ok (.aload_n 0, 1) := by decide +kernel
theorem dX6_isOfForm_77 : decode cX6_isOfForm 77 = .ok (.getfield 165, 3) := by decide +kernel
theorem dX6_isOfForm_80 : decode cX6_isOfForm 80 = .ok (.iconst (-1), 1) := by decide +kernel
theorem dX6_isOfForm_81 : decode cX6_isOfForm 81 = .ok (.if_icmp .ne 5, 3) := by decide +kernel
theorem dX6_isOfForm_84 : decode cX6_isOfForm 84 = .ok (.iconst 0, 1) := by decide +kernel
theorem dX6_isOfForm_85 : decode cX6_isOfForm 85 = .ok (.ireturn, 1) := by decide +kernel
theorem dX6_isOfForm_86 : decode cX6_isOfForm 86 = .ok (.aload_n 0, 1) := by decide +kernel
theorem dX6_isOfForm_87 : decode cX6_isOfForm 87 = .ok (.getfield 162, 3) := by decide +kernel
theorem dX6_isOfForm_90 : decode cX6_isOfForm 90 = .ok (.iconst 4, 1) := by decide +kernel
theorem dX6_isOfForm_91 : decode cX6_isOfForm 91 = .ok (.if_icmp .eq 21, 3) := by decide +kernel
theorem dX6_isOfForm_94 : decode cX6_isOfForm 94 = .ok (.aload_n 0, 1) := by decide +kernel
theorem dX6_isOfForm_95 : decode cX6_isOfForm 95 = .ok (.aload_n 0, 1) := by decide +kernel
theorem dX6_isOfForm_96 : decode cX6_isOfForm 96 = .ok (.invokevirtual 171, 3) := by decide +kernel
theorem dX6_isOfForm_99 : decode cX6_isOfForm 99 = .ok (.putfield 168, 3) := by decide +kernel
theorem dX6_isOfForm_102 : decode cX6_isOfForm 102 = .ok (.aload_n 0, 1) := by decide +kernel
theorem dX6_isOfForm_103 : decode cX6_isOfForm 103 = .ok (.getfield 168, 3) := by decide +kernel
theorem dX6_isOfForm_106 : decode cX6_isOfForm 106 = .ok (.iconst (-1), 1) := by decide +kernel
theorem dX6_isOfForm_107 : decode cX6_isOfForm 107 = .ok (.if_icmp .ne 5, 3) := by decide +kernel
theorem dX6_isOfForm_110 : decode cX6_isOfForm 110 = .ok (.iconst 0, 1) := by decide +kernel
theorem dX6_isOfForm_111 : decode cX6_isOfForm 111 = .ok (.ireturn, 1) := by decide +kernel
theorem dX6_isOfForm_112 : decode cX6_isOfForm 112 = .ok (.aload_n 0, 1) := by decide +kernel
theorem dX6_isOfForm_113 : decode cX6_isOfForm 113 = .ok (.aload_n 0, 1) := by decide +kernel
theorem dX6_isOfForm_114 : decode cX6_isOfForm 114 = .ok (.getfield 153, 3) := by decide +kernel
theorem dX6_isOfForm_117 : decode cX6_isOfForm 117 = .ok (.invokevirtual 143, 3) := by decide +kernel
theorem dX6_isOfForm_120 : decode cX6_isOfForm 120 = .ok (.bipush 59, 2) := by decide +kernel
theorem dX6_isOfForm_122 : decode cX6_isOfForm 122 = .ok (.if_icmp .eq 5, 3) := by decide +kernel
theorem dX6_isOfForm_125 : decode cX6_isOfForm 125 = .ok (.iconst 0, 1) := by decide +kernel
theorem dX6_isOfForm_126 : decode cX6_isOfForm 126 = .ok (.ireturn, 1) := by decide +kernel
theorem dX6_isOfForm_127 : decode cX6_isOfForm 127 = .ok (.aload_n 0, 1) := by decide +kernel
theorem dX6_isOfForm_128 : decode cX6_isOfForm 128 = .ok (.dup, 1) := by decide +kernel
theorem dX6_isOfForm_129 : decode cX6_isOfForm 129 = .ok (.getfield 153, 3) := by decide +kernel
theorem dX6_isOfForm_132 : decode cX6_isOfForm 132 = .ok (.iconst 1, 1) := by decide +kernel
theorem dX6_isOfForm_133 : decode cX6_isOfForm 133 = .ok (.iadd, 1) := by decide +kernel
theorem dX6_isOfForm_134 : decode cX6_isOfForm 134 = .ok (.putfield 153, 3) := by decide +kernel
theorem dX6_isOfForm_137 : decode cX6_isOfForm 137 = .ok (.iconst 1, 1) := by decide +kernel
theorem dX6_isOfForm_138 : decode cX6_isOfForm 138 = .ok (.ireturn, 1) := by decide +kernel
theorem dX6_readsOrder_0 : decode cX6_readsOrder 0 = .ok (.aload_n 0, 1) := by decide +kernel
theorem dX6_readsOrder_1 : decode cX6_readsOrder 1 = .ok (.iconst 0, 1) := by decide +kernel
theorem dX6_readsOrder_2 : decode cX6_readsOrder 2 = .ok (.putfield 175, 3) := by decide +kernel
theorem dX6_readsOrder_5 : decode cX6_readsOrder 5 = .ok (.aload_n 0, 1) := by decide +kernel
theorem dX6_readsOrder_6 : decode cX6_readsOrder 6 = .ok (.invokevirtual 178, 3) := by decide +kernel
theorem dX6_readsOrder_9 : decode cX6_readsOrder 9 = .ok (.ifCond .ne 23, 3) := by decide +kernel
theorem dX6_readsOrder_12 : decode cX6_readsOrder 12 = .ok (.aload_n 0, 1) := by decide +kernel
theorem dX6_readsOrder_13 : decode cX6_readsOrder 13 = .ok (.iconst 1, 1) := by decide +kernel
theorem dX6_readsOrder_14 : decode cX6_readsOrder 14 = .ok (.putfield 175, 3) := by decide +kernel
theorem dX6_readsOrder_17 : decode cX6_readsOrder 17 = .ok (.aload_n 0, 1) := by decide +kernel
theorem dX6_readsOrder_18 : decode cX6_readsOrder 18 = .ok (.aload_n 0, 1) := by decide +kernel
theorem dX6_readsOrder_19 : decode cX6_readsOrder 19 = .ok (.getfield 153, 3) := by decide +kernel
theorem dX6_readsOrder_22 : decode cX6_readsOrder 22 = .ok (.aload_n 0, 1) := by decide +kernel
theorem dX6_readsOrder_23 : decode cX6_readsOrder 23 = .ok (.getfield 146, 3) := by decide +kernel
theorem dX6_readsOrder_26 : decode cX6_readsOrder 26 = .ok (.isub, 1) := by decide +kernel
theorem dX6_readsOrder_27 : decode cX6_readsOrder 27 = .ok (.putfield 182, 3) := by decide +kernel
theorem dX6_readsOrder_30 : decode cX6_readsOrder 30 = .ok (.iconst 0, 1) := by decide +kernel
theorem dX6_readsOrder_31 : decode cX6_readsOrder 31 = .ok (.ireturn, 1) := by decide +kernel
theorem dX6_readsOrder_32 : decode cX6_readsOrder 32 = .ok (.aload_n 0, 1) := by decide +kernel
theorem dX6_readsOrder_33 : decode cX6_readsOrder 33 = .ok (.getfield 162, 3) := by decide +kernel
theorem dX6_readsOrder_36 : decode cX6_readsOrder 36 = .ok (.iconst 4, 1) := by decide +kernel
theorem dX6_readsOrder_37 : decode cX6_readsOrder 37 = .ok (.if_icmp .ne 20, 3) := by decide +kernel
theorem dX6_readsOrder_40 : decode cX6_readsOrder 40 = .ok (.aload_n 0, 1) := by decide +kernel
theorem dX6_readsOrder_41 : decode cX6_readsOrder 41 = .ok (.getfield 165, 3) := by decide +kernel
theorem dX6_readsOrder_44 : decode cX6_readsOrder 44 = .ok (.bipush 50, 2) := by decide +kernel
theorem dX6_readsOrder_46 : decode cX6_readsOrder 46 = .ok (.if_icmp .gt 7, 3) := by decide +kernel
theorem dX6_readsOrder_49 : decode cX6_readsOrder 49 = .ok (.iconst 1, 1) := by decide +kernel
theorem dX6_readsOrder_50 : decode cX6_readsOrder 50 = .ok (.goto 21, 3) := by decide +kernel
theorem dX6_readsOrder_53 : decode cX6_readsOrder 53 = .ok (.iconst 0, 1) := by decide +kernel
theorem dX6_readsOrder_54 : decode cX6_readsOrder 54 = .ok (.goto 17, 3) := by decide +kernel
theorem dX6_readsOrder_57 : decode cX6_readsOrder 57 = .ok (.aload_n 0, 1) := by decide +kernel
theorem dX6_readsOrder_58 : decode cX6_readsOrder 58 = .ok (.getfield 165, 3) := by decide +kernel
theorem dX6_readsOrder_61 : decode cX6_readsOrder 61 = .ok (.bipush 64, 2) := by decide +kernel
theorem dX6_readsOrder_63 : decode cX6_readsOrder 63 = .ok (.if_icmp .ge 7, 3) := by decide +kernel
theorem dX6_readsOrder_66 : decode cX6_readsOrder 66 = .ok (.iconst 1, 1) := by decide +kernel
theorem dX6_readsOrder_67 : decode cX6_readsOrder 67 = .ok (.goto 4, 3) := by decide +kernel
theorem dX6_readsOrder_70 : decode cX6_readsOrder 70 = .ok (.iconst 0, 1) := by decide +kernel
theorem dX6_readsOrder_71 : decode cX6_readsOrder 71 = .ok (.istore_n 1, 1) := by decide +kernel
theorem dX6_readsOrder_72 : decode cX6_readsOrder 72 = .ok (.aload_n 0, 1) := by decide +kernel
theorem dX6_readsOrder_73 : decode cX6_readsOrder 73 = .ok (.getfield 162, 3) := by decide +kernel
theorem dX6_readsOrder_76 : decode cX6_readsOrder 76 = .ok (.iconst 4, 1) := by decide +kernel
theorem dX6_readsOrder_77 : decode cX6_readsOrder 77 = .ok (.if_icmp .eq 16, 3) := by decide +kernel
theorem dX6_readsOrder_80 : decode cX6_readsOrder 80 = .ok (.aload_n 0, 1) := by decide +kernel
theorem dX6_readsOrder_81 : decode cX6_readsOrder 81 = .ok (.getfield 168, 3) := by decide +kernel
theorem dX6_readsOrder_84 : decode cX6_readsOrder 84 = .ok (.iconst 1, 1) := by decide +kernel
theorem dX6_readsOrder_85 : decode cX6_readsOrder 85 = .ok (.bipush 40, 2) := by decide +kernel
theorem dX6_readsOrder_87 : decode cX6_readsOrder 87 = .ok (.invokestatic 42, 3) := by decide +kernel
theorem dX6_readsOrder_90 : decode cX6_readsOrder 90 = .ok (.ifCond .eq 7, 3) := by decide +kernel
theorem dX6_readsOrder_93 : decode cX6_readsOrder 93 = .ok (.iconst 1, 1) := by decide +kernel
theorem dX6_readsOrder_94 : decode cX6_readsOrder 94 = .ok (.goto 4, 3) := by decide +kernel
theorem dX6_readsOrder_97 : decode cX6_readsOrder 97 = .ok (.iconst 0, 1) := by decide +kernel
theorem dX6_readsOrder_98 : decode cX6_readsOrder 98 = .ok (.istore_n 2, 1) := by decide +kernel
theorem dX6_readsOrder_99 : decode cX6_readsOrder 99 = .ok (.iload_n 1, 1) := by decide +kernel
theorem dX6_readsOrder_100 : decode cX6_readsOrder 100 = .ok (.ifCond .eq 7, 3) := by decide +kernel
theorem dX6_readsOrder_103 : decode cX6_readsOrder 103 = .ok (.iload_n 2, 1) := by decide +kernel
theorem dX6_readsOrder_104 : decode cX6_readsOrder 104 = .ok (.ifCond .ne 23, 3) := by decide +kernel
theorem dX6_readsOrder_107 : decode cX6_readsOrder 107 = .ok (.aload_n 0, 1) := by decide +kernel
theorem dX6_readsOrder_108 : decode cX6_readsOrder 108 = .ok (.iconst 2, 1) := by decide +kernel
theorem dX6_readsOrder_109 : decode cX6_readsOrder 109 = .ok (.putfield 175, 3) := by decide +kernel
theorem dX6_readsOrder_112 : decode cX6_readsOrder 112 = .ok (.aload_n 0, 1) := by decide +kernel
theorem dX6_readsOrder_113 : decode cX6_readsOrder 113 = .ok (.iload_n 1, 1) := by decide +kernel
theorem dX6_readsOrder_114 : decode cX6_readsOrder 114 = .ok (.ifCond .eq 7, 3) := by decide +kernel
theorem dX6_readsOrder_117 : decode cX6_readsOrder 117 = .ok (.iconst 1, 1) := by decide +kernel
theorem dX6_readsOrder_118 : decode cX6_readsOrder 118 = .ok (.goto 4, 3) := by decide +kernel
theorem dX6_readsOrder_121 : decode cX6_readsOrder 121 = .ok (.iconst 0, 1) := by decide +kernel
theorem dX6_readsOrder_122 : decode cX6_readsOrder 122 = .ok (.putfield 182, 3) := by decide +kernel
theorem dX6_readsOrder_125 : decode cX6_readsOrder 125 = .ok (.iconst 0, 1) := by decide +kernel
theorem dX6_readsOrder_126 : decode cX6_readsOrder 126 = .ok (.ireturn, 1) := by decide +kernel
theorem dX6_readsOrder_127 : decode cX6_readsOrder 127 = .ok (.iconst 1, 1) := by decide +kernel
theorem dX6_readsOrder_128 : decode cX6_readsOrder 128 = .ok (.ireturn, 1) := by decide +kernel
theorem dX6_hasFault_0 : decode cX6_hasFault 0 = .ok (.aload_n 0, 1) := by decide +kernel
theorem dX6_hasFault_1 : decode cX6_hasFault 1 = .ok (.iconst 0, 1) := by decide +kernel
theorem dX6_hasFault_2 : decode cX6_hasFault 2 = .ok (.putfield 146, 3) := by decide +kernel
theorem dX6_hasFault_5 : decode cX6_hasFault 5 = .ok (.iconst 0, 1) := by decide +kernel
theorem dX6_hasFault_6 : decode cX6_hasFault 6 = .ok (.istore_n 1, 1) := by decide +kernel
theorem dX6_hasFault_7 : decode cX6_hasFault 7 = .ok (.iload_n 1, 1) := by decide +kernel
theorem dX6_hasFault_8 : decode cX6_hasFault 8 = .ok (.ifCond .ne 49, 3) := by decide +kernel
theorem dX6_hasFault_11 : decode cX6_hasFault 11 = .ok (.aload_n 0, 1) := by decide +kernel
theorem dX6_hasFault_12 : decode cX6_hasFault 12 = .ok (.getfield 146, 3) := by decide +kernel
theorem dX6_hasFault_15 : decode cX6_hasFault 15 = .ok (.aload_n 0, 1) := by decide +kernel
theorem dX6_hasFault_16 : decode cX6_hasFault 16 = .ok (.getfield 140, 3) := by decide +kernel
theorem dX6_hasFault_19 : decode cX6_hasFault 19 = .ok (.if_icmp .ge 38, 3) := by decide +kernel
theorem dX6_hasFault_22 : decode cX6_hasFault 22 = .ok (.aload_n 0, 1) := by decide +kernel
theorem dX6_hasFault_23 : decode cX6_hasFault 23 = .ok (.invokevirtual 185, 3) := by decide +kernel
theorem dX6_hasFault_26 : decode cX6_hasFault 26 = .ok (.ifCond .ne 7, 3) := by decide +kernel
theorem dX6_hasFault_29 : decode cX6_hasFault 29 = .ok (.iconst 1, 1) := by decide +kernel
theorem dX6_hasFault_30 : decode cX6_hasFault 30 = .ok (.goto 4, 3) := by decide +kernel
theorem dX6_hasFault_33 : decode cX6_hasFault 33 = .ok (.iconst 0, 1) := by decide +kernel
theorem dX6_hasFault_34 : decode cX6_hasFault 34 = .ok (.istore_n 1, 1) := by decide +kernel
theorem dX6_hasFault_35 : decode cX6_hasFault 35 = .ok (.aload_n 0, 1) := by decide +kernel
theorem dX6_hasFault_36 : decode cX6_hasFault 36 = .ok (.iload_n 1, 1) := by decide +kernel
theorem dX6_hasFault_37 : decode cX6_hasFault 37 = .ok (.ifCond .eq 10, 3) := by decide +kernel
theorem dX6_hasFault_40 : decode cX6_hasFault 40 = .ok (.aload_n 0, 1) := by decide +kernel
theorem dX6_hasFault_41 : decode cX6_hasFault 41 = .ok (.getfield 146, 3) := by decide +kernel
theorem dX6_hasFault_44 : decode cX6_hasFault 44 = .ok (.goto 7, 3) := by decide +kernel
theorem dX6_hasFault_47 : decode cX6_hasFault 47 = .ok (.aload_n 0, 1) := by decide +kernel
theorem dX6_hasFault_48 : decode cX6_hasFault 48 = .ok (.getfield 153, 3) := by decide +kernel
theorem dX6_hasFault_51 : decode cX6_hasFault 51 = .ok (.putfield 146, 3) := by decide +kernel
theorem dX6_hasFault_54 : decode cX6_hasFault 54 = .ok (.goto (-47), 3) := by decide +kernel
theorem dX6_hasFault_57 : decode cX6_hasFault 57 = .ok (.iload_n 1, 1) := by decide +kernel
theorem dX6_hasFault_58 : decode cX6_hasFault 58 = .ok (.ireturn, 1) := by decide +kernel
theorem dX6_fault_0 : decode cX6_fault 0 = .ok (.iload_n 1, 1) := by decide +kernel
theorem dX6_fault_1 : decode cX6_fault 1 = .ok (.iconst 0, 1) := by decide +kernel
theorem dX6_fault_2 : decode cX6_fault 2 = .ok (.iconst 2, 1) := by decide +kernel
theorem dX6_fault_3 : decode cX6_fault 3 = .ok (.invokestatic 42, 3) := by decide +kernel
theorem dX6_fault_6 : decode cX6_fault 6 = .ok (.ifCond .ne 6, 3) := by decide +kernel
theorem dX6_fault_9 : decode cX6_fault 9 = .ok (.ldc 77, 2) := by decide +kernel
theorem dX6_fault_11 : decode cX6_fault 11 = .ok (.ireturn, 1) := by decide +kernel
theorem dX6_fault_12 : decode cX6_fault 12 = .ok (.aload_n 0, 1) := by decide +kernel
theorem dX6_fault_13 : decode cX6_fault 13 = .ok (.invokevirtual 188, 3) := by decide +kernel
theorem dX6_fault_16 : decode cX6_fault 16 = .ok (.ifCond .ne 6, 3) := by decide +kernel
theorem dX6_fault_19 : decode cX6_fault 19 = .ok (.ldc 129, 2) := by decide +kernel
theorem dX6_fault_21 : decode cX6_fault 21 = .ok (.ireturn, 1) := by decide +kernel
theorem dX6_fault_22 : decode cX6_fault 22 = .ok (.iload_n 1, 1) := by decide +kernel
theorem dX6_fault_23 : decode cX6_fault 23 = .ok (.ifCond .ne 10, 3) := by decide +kernel
theorem dX6_fault_26 : decode cX6_fault 26 = .ok (.aload_n 0, 1) := by decide +kernel
theorem dX6_fault_27 : decode cX6_fault 27 = .ok (.getfield 146, 3) := by decide +kernel
theorem dX6_fault_30 : decode cX6_fault 30 = .ok (.goto 19, 3) := by decide +kernel
theorem dX6_fault_33 : decode cX6_fault 33 = .ok (.iload_n 1, 1) := by decide +kernel
theorem dX6_fault_34 : decode cX6_fault 34 = .ok (.iconst 1, 1) := by decide +kernel
theorem dX6_fault_35 : decode cX6_fault 35 = .ok (.if_icmp .ne 10, 3) := by decide +kernel
theorem dX6_fault_38 : decode cX6_fault 38 = .ok (.aload_n 0, 1) := by decide +kernel
theorem dX6_fault_39 : decode cX6_fault 39 = .ok (.getfield 175, 3) := by decide +kernel
theorem dX6_fault_42 : decode cX6_fault 42 = .ok (.goto 7, 3) := by decide +kernel
theorem dX6_fault_45 : decode cX6_fault 45 = .ok (.aload_n 0, 1) := by decide +kernel
theorem dX6_fault_46 : decode cX6_fault 46 = .ok (.getfield 182, 3) := by decide +kernel
theorem dX6_fault_49 : decode cX6_fault 49 = .ok (.ireturn, 1) := by decide +kernel
theorem dX6_does_0 : decode cX6_does 0 = .ok (.aload_n 0, 1) := by decide +kernel
theorem dX6_does_1 : decode cX6_does 1 = .ok (.getfield 162, 3) := by decide +kernel
theorem dX6_does_4 : decode cX6_does 4 = .ok (.iconst 4, 1) := by decide +kernel
theorem dX6_does_5 : decode cX6_does 5 = .ok (.if_icmp .ne 15, 3) := by decide +kernel
theorem dX6_does_8 : decode cX6_does 8 = .ok (.aload_n 0, 1) := by decide +kernel
theorem dX6_does_9 : decode cX6_does 9 = .ok (.getfield 7, 3) := by decide +kernel
theorem dX6_does_12 : decode cX6_does 12 = .ok (.iconst 1, 1) := by decide +kernel
theorem dX6_does_13 : decode cX6_does 13 = .ok (.aload_n 0, 1) := by decide +kernel
theorem dX6_does_14 : decode cX6_does 14 = .ok (.getfield 165, 3) := by decide +kernel
theorem dX6_does_17 : decode cX6_does 17 = .ok (.iastore, 1) := by decide +kernel
theorem dX6_does_18 : decode cX6_does 18 = .ok (.iconst 0, 1) := by decide +kernel
theorem dX6_does_19 : decode cX6_does 19 = .ok (.ireturn, 1) := by decide +kernel
theorem dX6_does_20 : decode cX6_does 20 = .ok (.iconst 0, 1) := by decide +kernel
theorem dX6_does_21 : decode cX6_does 21 = .ok (.istore_n 1, 1) := by decide +kernel
theorem dX6_does_22 : decode cX6_does 22 = .ok (.iload_n 1, 1) := by decide +kernel
theorem dX6_does_23 : decode cX6_does 23 = .ok (.aload_n 0, 1) := by decide +kernel
theorem dX6_does_24 : decode cX6_does 24 = .ok (.getfield 168, 3) := by decide +kernel
theorem dX6_does_27 : decode cX6_does 27 = .ok (.if_icmp .ge 74, 3) := by decide +kernel
theorem dX6_does_30 : decode cX6_does 30 = .ok (.aload_n 0, 1) := by decide +kernel
theorem dX6_does_31 : decode cX6_does 31 = .ok (.getfield 162, 3) := by decide +kernel
theorem dX6_does_34 : decode cX6_does 34 = .ok (.ifCond .ne 7, 3) := by decide +kernel
theorem dX6_does_37 : decode cX6_does 37 = .ok (.iconst 1, 1) := by decide +kernel
theorem dX6_does_38 : decode cX6_does 38 = .ok (.goto 46, 3) := by decide +kernel
theorem dX6_does_41 : decode cX6_does 41 = .ok (.aload_n 0, 1) := by decide +kernel
theorem dX6_does_42 : decode cX6_does 42 = .ok (.getfield 162, 3) := by decide +kernel
theorem dX6_does_45 : decode cX6_does 45 = .ok (.iconst 1, 1) := by decide +kernel
theorem dX6_does_46 : decode cX6_does 46 = .ok (.if_icmp .ne 7, 3) := by decide +kernel
theorem dX6_does_49 : decode cX6_does 49 = .ok (.iconst 0, 1) := by decide +kernel
theorem dX6_does_50 : decode cX6_does 50 = .ok (.goto 34, 3) := by decide +kernel
theorem dX6_does_53 : decode cX6_does 53 = .ok (.aload_n 0, 1) := by decide +kernel
theorem dX6_does_54 : decode cX6_does 54 = .ok (.getfield 162, 3) := by decide +kernel
theorem dX6_does_57 : decode cX6_does 57 = .ok (.iconst 2, 1) := by decide +kernel
theorem dX6_does_58 : decode cX6_does 58 = .ok (.if_icmp .ne 11, 3) := by decide +kernel
theorem dX6_does_61 : decode cX6_does 61 = .ok (.iconst 1, 1) := by decide +kernel
theorem dX6_does_62 : decode cX6_does 62 = .ok (.iload_n 1, 1) := by decide +kernel
theorem dX6_does_63 : decode cX6_does 63 = .ok (.iconst 2, 1) := by decide +kernel
theorem dX6_does_64 : decode cX6_does 64 = .ok (.irem, 1) := by decide +kernel
theorem dX6_does_65 : decode cX6_does 65 = .ok (.isub, 1) := by decide +kernel
theorem dX6_does_66 : decode cX6_does 66 = .ok (.goto 18, 3) := by decide +kernel
theorem dX6_does_69 : decode cX6_does 69 = .ok (.iload_n 1, 1) := by decide +kernel
theorem dX6_does_70 : decode cX6_does 70 = .ok (.iconst 1, 1) := by decide +kernel
theorem dX6_does_71 : decode cX6_does 71 = .ok (.iadd, 1) := by decide +kernel
theorem dX6_does_72 : decode cX6_does 72 = .ok (.aload_n 0, 1) := by decide +kernel
theorem dX6_does_73 : decode cX6_does 73 = .ok (.getfield 168, 3) := by decide +kernel
theorem dX6_does_76 : decode cX6_does 76 = .ok (.if_icmp .ge 7, 3) := by decide +kernel
theorem dX6_does_79 : decode cX6_does 79 = .ok (.iconst 1, 1) := by decide +kernel
theorem dX6_does_80 : decode cX6_does 80 = .ok (.goto 4, 3) := by decide +kernel
theorem dX6_does_83 : decode cX6_does 83 = .ok (.iconst 0, 1) := by decide +kernel
theorem dX6_does_84 : decode cX6_does 84 = .ok (.istore_n 2, 1) := by decide +kernel
theorem dX6_does_85 : decode cX6_does 85 = .ok (.aload_n 0, 1) := by decide +kernel
theorem dX6_does_86 : decode cX6_does 86 = .ok (.aload_n 0, 1) := by decide +kernel
theorem dX6_does_87 : decode cX6_does 87 = .ok (.getfield 165, 3) := by decide +kernel
theorem dX6_does_90 : decode cX6_does 90 = .ok (.iload_n 2, 1) := by decide +kernel
theorem dX6_does_91 : decode cX6_does 91 = .ok (.invokevirtual 123, 3) := by decide +kernel
theorem dX6_does_94 : decode cX6_does 94 = .ok (.pop, 1) := by decide +kernel
theorem dX6_does_95 : decode cX6_does 95 = .ok (.iinc 1 1, 3) := by decide +kernel
theorem dX6_does_98 : decode cX6_does 98 = .ok (.goto (-76), 3) := by decide +kernel
theorem dX6_does_101 : decode cX6_does 101 = .ok (.aload_n 0, 1) := by decide +kernel
theorem dX6_does_102 : decode cX6_does 102 = .ok (.getfield 168, 3) := by decide +kernel
theorem dX6_does_105 : decode cX6_does 105 = .ok (.ireturn, 1) := by decide +kernel
theorem dX6_play_0 : decode cX6_play 0 = .ok (.aload_n 0, 1) := by decide +kernel
theorem dX6_play_1 : decode cX6_play 1 = .ok (.invokevirtual 188, 3) := by decide +kernel
theorem dX6_play_4 : decode cX6_play 4 = .ok (.ifCond .eq 6, 3) := by decide +kernel
theorem dX6_play_7 : decode cX6_play 7 = .ok (.ldc 89, 2) := by decide +kernel
theorem dX6_play_9 : decode cX6_play 9 = .ok (.ireturn, 1) := by decide +kernel
theorem dX6_play_10 : decode cX6_play 10 = .ok (.aload_n 0, 1) := by decide +kernel
theorem dX6_play_11 : decode cX6_play 11 = .ok (.invokevirtual 78, 3) := by decide +kernel
theorem dX6_play_14 : decode cX6_play 14 = .ok (.iconst 0, 1) := by decide +kernel
theorem dX6_play_15 : decode cX6_play 15 = .ok (.istore_n 1, 1) := by decide +kernel
theorem dX6_play_16 : decode cX6_play 16 = .ok (.aload_n 0, 1) := by decide +kernel
theorem dX6_play_17 : decode cX6_play 17 = .ok (.iconst 0, 1) := by decide +kernel
theorem dX6_play_18 : decode cX6_play 18 = .ok (.putfield 146, 3) := by decide +kernel
theorem dX6_play_21 : decode cX6_play 21 = .ok (.aload_n 0, 1) := by decide +kernel
theorem dX6_play_22 : decode cX6_play 22 = .ok (.getfield 146, 3) := by decide +kernel
theorem dX6_play_25 : decode cX6_play 25 = .ok (.aload_n 0, 1) := by decide +kernel
theorem dX6_play_26 : decode cX6_play 26 = .ok (.getfield 140, 3) := by decide +kernel
theorem dX6_play_29 : decode cX6_play 29 = .ok (.if_icmp .ge 26, 3) := by decide +kernel
theorem dX6_play_32 : decode cX6_play 32 = .ok (.aload_n 0, 1) := by decide +kernel
theorem dX6_play_33 : decode cX6_play 33 = .ok (.invokevirtual 185, 3) := by decide +kernel
theorem dX6_play_36 : decode cX6_play 36 = .ok (.pop, 1) := by decide +kernel
theorem dX6_play_37 : decode cX6_play 37 = .ok (.iload_n 1, 1) := by decide +kernel
theorem dX6_play_38 : decode cX6_play 38 = .ok (.aload_n 0, 1) := by decide +kernel
theorem dX6_play_39 : decode cX6_play 39 = .ok (.invokevirtual 191, 3) := by decide +kernel
theorem dX6_play_42 : decode cX6_play 42 = .ok (.iadd, 1) := by decide +kernel
theorem dX6_play_43 : decode cX6_play 43 = .ok (.istore_n 1, 1) := by decide +kernel
theorem dX6_play_44 : decode cX6_play 44 = .ok (.aload_n 0, 1) := by decide +kernel
theorem dX6_play_45 : decode cX6_play 45 = .ok (.aload_n 0, 1) := by decide +kernel
theorem dX6_play_46 : decode cX6_play 46 = .ok (.getfield 153, 3) := by decide +kernel
theorem dX6_play_49 : decode cX6_play 49 = .ok (.putfield 146, 3) := by decide +kernel
theorem dX6_play_52 : decode cX6_play 52 = .ok (.goto (-31), 3) := by decide +kernel
theorem dX6_play_55 : decode cX6_play 55 = .ok (.iload_n 1, 1) := by decide +kernel
theorem dX6_play_56 : decode cX6_play 56 = .ok (.ireturn, 1) := by decide +kernel
