/-! decode rows (printed by the kit's program) -/
theorem dX0_init_0 : decode cX0_init 0 = .ok (.aload_n 0, 1) := by decide +kernel
theorem dX0_init_1 : decode cX0_init 1 = .ok (.invokespecial 1, 3) := by decide +kernel
theorem dX0_init_4 : decode cX0_init 4 = .ok (.return_, 1) := by decide +kernel
theorem dX0_copyFrom_0 : decode cX0_copyFrom 0 = .ok (.aload_n 0, 1) := by decide +kernel
theorem dX0_copyFrom_1 : decode cX0_copyFrom 1 = .ok (.aload_n 1, 1) := by decide +kernel
theorem dX0_copyFrom_2 : decode cX0_copyFrom 2 = .ok (.getfield 7, 3) := by decide +kernel
theorem dX0_copyFrom_5 : decode cX0_copyFrom 5 = .ok (.putfield 7, 3) := by decide +kernel
theorem dX0_copyFrom_8 : decode cX0_copyFrom 8 = .ok (.aload_n 0, 1) := by decide +kernel
theorem dX0_copyFrom_9 : decode cX0_copyFrom 9 = .ok (.aload_n 1, 1) := by decide +kernel
theorem dX0_copyFrom_10 : decode cX0_copyFrom 10 = .ok (.getfield 13, 3) := by decide +kernel
theorem dX0_copyFrom_13 : decode cX0_copyFrom 13 = .ok (.putfield 13, 3) := by decide +kernel
theorem dX0_copyFrom_16 : decode cX0_copyFrom 16 = .ok (.aload_n 0, 1) := by decide +kernel
theorem dX0_copyFrom_17 : decode cX0_copyFrom 17 = .ok (.aload_n 1, 1) := by decide +kernel
theorem dX0_copyFrom_18 : decode cX0_copyFrom 18 = .ok (.getfield 16, 3) := by decide +kernel
theorem dX0_copyFrom_21 : decode cX0_copyFrom 21 = .ok (.putfield 16, 3) := by decide +kernel
theorem dX0_copyFrom_24 : decode cX0_copyFrom 24 = .ok (.return_, 1) := by decide +kernel
theorem dX1_init_0 : decode cX1_init 0 = .ok (.aload_n 0, 1) := by decide +kernel
theorem dX1_init_1 : decode cX1_init 1 = .ok (.invokespecial 3, 3) := by decide +kernel
theorem dX1_init_4 : decode cX1_init 4 = .ok (.aload_n 0, 1) := by decide +kernel
theorem dX1_init_5 : decode cX1_init 5 = .ok (.bipush 32, 2) := by decide +kernel
theorem dX1_init_7 : decode cX1_init 7 = .ok (.newarray .int, 2) := by decide +kernel
theorem dX1_init_9 : decode cX1_init 9 = .ok (.putfield 9, 3) := by decide +kernel
theorem dX1_init_12 : decode cX1_init 12 = .ok (.return_, 1) := by decide +kernel
theorem dX1_begin_0 : decode cX1_begin 0 = .ok (.aload_n 0, 1) := by decide +kernel
theorem dX1_begin_1 : decode cX1_begin 1 = .ok (.iload_n 1, 1) := by decide +kernel
theorem dX1_begin_2 : decode cX1_begin 2 = .ok (.putfield 15, 3) := by decide +kernel
theorem dX1_begin_5 : decode cX1_begin 5 = .ok (.aload_n 0, 1) := by decide +kernel
theorem dX1_begin_6 : decode cX1_begin 6 = .ok (.iload_n 2, 1) := by decide +kernel
theorem dX1_begin_7 : decode cX1_begin 7 = .ok (.putfield 19, 3) := by decide +kernel
theorem dX1_begin_10 : decode cX1_begin 10 = .ok (.aload_n 0, 1) := by decide +kernel
theorem dX1_begin_11 : decode cX1_begin 11 = .ok (.iload_n 3, 1) := by decide +kernel
theorem dX1_begin_12 : decode cX1_begin 12 = .ok (.putfield 22, 3) := by decide +kernel
theorem dX1_begin_15 : decode cX1_begin 15 = .ok (.aload_n 0, 1) := by decide +kernel
theorem dX1_begin_16 : decode cX1_begin 16 = .ok (.iconst (-1), 1) := by decide +kernel
theorem dX1_begin_17 : decode cX1_begin 17 = .ok (.putfield 25, 3) := by decide +kernel
theorem dX1_begin_20 : decode cX1_begin 20 = .ok (.aload_n 0, 1) := by decide +kernel
theorem dX1_begin_21 : decode cX1_begin 21 = .ok (.iconst (-1), 1) := by decide +kernel
theorem dX1_begin_22 : decode cX1_begin 22 = .ok (.putfield 28, 3) := by decide +kernel
theorem dX1_begin_25 : decode cX1_begin 25 = .ok (.aload_n 0, 1) := by decide +kernel
theorem dX1_begin_26 : decode cX1_begin 26 = .ok (.iconst 0, 1) := by decide +kernel
theorem dX1_begin_27 : decode cX1_begin 27 = .ok (.putfield 31, 3) := by decide +kernel
theorem dX1_begin_30 : decode cX1_begin 30 = .ok (.aload_n 0, 1) := by decide +kernel
theorem dX1_begin_31 : decode cX1_begin 31 = .ok (.iconst 0, 1) := by decide +kernel
theorem dX1_begin_32 : decode cX1_begin 32 = .ok (.putfield 34, 3) := by decide +kernel
theorem dX1_begin_35 : decode cX1_begin 35 = .ok (.aload_n 0, 1) := by decide +kernel
theorem dX1_begin_36 : decode cX1_begin 36 = .ok (.iconst 0, 1) := by decide +kernel
theorem dX1_begin_37 : decode cX1_begin 37 = .ok (.putfield 37, 3) := by decide +kernel
theorem dX1_begin_40 : decode cX1_begin 40 = .ok (.aload_n 0, 1) := by decide +kernel
theorem dX1_begin_41 : decode cX1_begin 41 = .ok (.iconst 0, 1) := by decide +kernel
theorem dX1_begin_42 : decode cX1_begin 42 = .ok (.putfield 40, 3) := by decide +kernel
theorem dX1_begin_45 : decode cX1_begin 45 = .ok (.iconst 0, 1) := by decide +kernel
theorem dX1_begin_46 : decode cX1_begin 46 = .ok (.istore 4, 2) := by decide +kernel
theorem dX1_begin_48 : decode cX1_begin 48 = .ok (.iload 4, 2) := by decide +kernel
theorem dX1_begin_50 : decode cX1_begin 50 = .ok (.aload_n 0, 1) := by decide +kernel
theorem dX1_begin_51 : decode cX1_begin 51 = .ok (.getfield 9, 3) := by decide +kernel
theorem dX1_begin_54 : decode cX1_begin 54 = .ok (.arraylength, 1) := by decide +kernel
theorem dX1_begin_55 : decode cX1_begin 55 = .ok (.if_icmp .ge 17, 3) := by decide +kernel
theorem dX1_begin_58 : decode cX1_begin 58 = .ok (.aload_n 0, 1) := by decide +kernel
theorem dX1_begin_59 : decode cX1_begin 59 = .ok (.getfield 9, 3) := by decide +kernel
theorem dX1_begin_62 : decode cX1_begin 62 = .ok (.iload 4, 2) := by decide +kernel
theorem dX1_begin_64 : decode cX1_begin 64 = .ok (.iconst 1, 1) := by decide +kernel
theorem dX1_begin_65 : decode cX1_begin 65 = .ok (.iastore, 1) := by decide +kernel
theorem dX1_begin_66 : decode cX1_begin 66 = .ok (.iinc 4 1, 3) := by decide +kernel
theorem dX1_begin_69 : decode cX1_begin 69 = .ok (.goto (-21), 3) := by decide +kernel
theorem dX1_begin_72 : decode cX1_begin 72 = .ok (.return_, 1) := by decide +kernel
theorem dX1_copyFrom_0 : decode cX1_copyFrom 0 = .ok (.aload_n 0, 1) := by decide +kernel
theorem dX1_copyFrom_1 : decode cX1_copyFrom 1 = .ok (.aload_n 1, 1) := by decide +kernel
theorem dX1_copyFrom_2 : decode cX1_copyFrom 2 = .ok (.getfield 15, 3) := by decide +kernel
theorem dX1_copyFrom_5 : decode cX1_copyFrom 5 = .ok (.putfield 15, 3) := by decide +kernel
theorem dX1_copyFrom_8 : decode cX1_copyFrom 8 = .ok (.aload_n 0, 1) := by decide +kernel
theorem dX1_copyFrom_9 : decode cX1_copyFrom 9 = .ok (.aload_n 1, 1) := by decide +kernel
theorem dX1_copyFrom_10 : decode cX1_copyFrom 10 = .ok (.getfield 19, 3) := by decide +kernel
theorem dX1_copyFrom_13 : decode cX1_copyFrom 13 = .ok (.putfield 19, 3) := by decide +kernel
theorem dX1_copyFrom_16 : decode cX1_copyFrom 16 = .ok (.aload_n 0, 1) := by decide +kernel
theorem dX1_copyFrom_17 : decode cX1_copyFrom 17 = .ok (.aload_n 1, 1) := by decide +kernel
theorem dX1_copyFrom_18 : decode cX1_copyFrom 18 = .ok (.getfield 22, 3) := by decide +kernel
theorem dX1_copyFrom_21 : decode cX1_copyFrom 21 = .ok (.putfield 22, 3) := by decide +kernel
theorem dX1_copyFrom_24 : decode cX1_copyFrom 24 = .ok (.aload_n 0, 1) := by decide +kernel
theorem dX1_copyFrom_25 : decode cX1_copyFrom 25 = .ok (.aload_n 1, 1) := by decide +kernel
theorem dX1_copyFrom_26 : decode cX1_copyFrom 26 = .ok (.getfield 25, 3) := by decide +kernel
theorem dX1_copyFrom_29 : decode cX1_copyFrom 29 = .ok (.putfield 25, 3) := by decide +kernel
theorem dX1_copyFrom_32 : decode cX1_copyFrom 32 = .ok (.aload_n 0, 1) := by decide +kernel
theorem dX1_copyFrom_33 : decode cX1_copyFrom 33 = .ok (.aload_n 1, 1) := by decide +kernel
theorem dX1_copyFrom_34 : decode cX1_copyFrom 34 = .ok (.getfield 28, 3) := by decide +kernel
theorem dX1_copyFrom_37 : decode cX1_copyFrom 37 = .ok (.putfield 28, 3) := by decide +kernel
theorem dX1_copyFrom_40 : decode cX1_copyFrom 40 = .ok (.aload_n 0, 1) := by decide +kernel
theorem dX1_copyFrom_41 : decode cX1_copyFrom 41 = .ok (.aload_n 1, 1) := by decide +kernel
theorem dX1_copyFrom_42 : decode cX1_copyFrom 42 = .ok (.getfield 31, 3) := by decide +kernel
theorem dX1_copyFrom_45 : decode cX1_copyFrom 45 = .ok (.putfield 31, 3) := by decide +kernel
theorem dX1_copyFrom_48 : decode cX1_copyFrom 48 = .ok (.aload_n 0, 1) := by decide +kernel
theorem dX1_copyFrom_49 : decode cX1_copyFrom 49 = .ok (.aload_n 1, 1) := by decide +kernel
theorem dX1_copyFrom_50 : decode cX1_copyFrom 50 = .ok (.getfield 34, 3) := by decide +kernel
theorem dX1_copyFrom_53 : decode cX1_copyFrom 53 = .ok (.putfield 34, 3) := by decide +kernel
theorem dX1_copyFrom_56 : decode cX1_copyFrom 56 = .ok (.aload_n 0, 1) := by decide +kernel
theorem dX1_copyFrom_57 : decode cX1_copyFrom 57 = .ok (.aload_n 1, 1) := by decide +kernel
theorem dX1_copyFrom_58 : decode cX1_copyFrom 58 = .ok (.getfield 37, 3) := by decide +kernel
theorem dX1_copyFrom_61 : decode cX1_copyFrom 61 = .ok (.putfield 37, 3) := by decide +kernel
theorem dX1_copyFrom_64 : decode cX1_copyFrom 64 = .ok (.aload_n 0, 1) := by decide +kernel
theorem dX1_copyFrom_65 : decode cX1_copyFrom 65 = .ok (.aload_n 1, 1) := by decide +kernel
theorem dX1_copyFrom_66 : decode cX1_copyFrom 66 = .ok (.getfield 40, 3) := by decide +kernel
theorem dX1_copyFrom_69 : decode cX1_copyFrom 69 = .ok (.putfield 40, 3) := by decide +kernel
theorem dX1_copyFrom_72 : decode cX1_copyFrom 72 = .ok (.aload_n 1, 1) := by decide +kernel
theorem dX1_copyFrom_73 : decode cX1_copyFrom 73 = .ok (.getfield 9, 3) := by decide +kernel
theorem dX1_copyFrom_76 : decode cX1_copyFrom 76 = .ok (.iconst 0, 1) := by decide +kernel
theorem dX1_copyFrom_77 : decode cX1_copyFrom 77 = .ok (.aload_n 0, 1) := by decide +kernel
theorem dX1_copyFrom_78 : decode cX1_copyFrom 78 = .ok (.getfield 9, 3) := by decide +kernel
theorem dX1_copyFrom_81 : decode cX1_copyFrom 81 = .ok (.iconst 0, 1) := by decide +kernel
theorem dX1_copyFrom_82 : decode cX1_copyFrom 82 = .ok (.bipush 32, 2) := by decide +kernel
theorem dX1_copyFrom_84 : decode cX1_copyFrom 84 = .ok (.invokestatic 43, 3) := by decide +kernel
theorem dX1_copyFrom_87 : decode cX1_copyFrom 87 = .ok (.return_, 1) := by decide +kernel
theorem dX1_hasSeat_0 : decode cX1_hasSeat 0 = .ok (.aload_n 0, 1) := by decide +kernel
theorem dX1_hasSeat_1 : decode cX1_hasSeat 1 = .ok (.getfield 25, 3) := by decide +kernel
theorem dX1_hasSeat_4 : decode cX1_hasSeat 4 = .ok (.iconst (-1), 1) := by decide +kernel
theorem dX1_hasSeat_5 : decode cX1_hasSeat 5 = .ok (.if_icmp .eq 7, 3) := by decide +kernel
theorem dX1_hasSeat_8 : decode cX1_hasSeat 8 = .ok (.iconst 1, 1) := by decide +kernel
theorem dX1_hasSeat_9 : decode cX1_hasSeat 9 = .ok (.goto 4, 3) := by decide +kernel
theorem dX1_hasSeat_12 : decode cX1_hasSeat 12 = .ok (.iconst 0, 1) := by decide +kernel
theorem dX1_hasSeat_13 : decode cX1_hasSeat 13 = .ok (.ireturn, 1) := by decide +kernel
theorem dX1_isRuined_0 : decode cX1_isRuined 0 = .ok (.aload_n 0, 1) := by decide +kernel
theorem dX1_isRuined_1 : decode cX1_isRuined 1 = .ok (.getfield 22, 3) := by decide +kernel
theorem dX1_isRuined_4 : decode cX1_isRuined 4 = .ok (.ifCond .ne 7, 3) := by decide +kernel
theorem dX1_isRuined_7 : decode cX1_isRuined 7 = .ok (.iconst 1, 1) := by decide +kernel
theorem dX1_isRuined_8 : decode cX1_isRuined 8 = .ok (.goto 4, 3) := by decide +kernel
theorem dX1_isRuined_11 : decode cX1_isRuined 11 = .ok (.iconst 0, 1) := by decide +kernel
theorem dX1_isRuined_12 : decode cX1_isRuined 12 = .ok (.ireturn, 1) := by decide +kernel
theorem dX1_takesPart_0 : decode cX1_takesPart 0 = .ok (.aload_n 0, 1) := by decide +kernel
theorem dX1_takesPart_1 : decode cX1_takesPart 1 = .ok (.invokevirtual 49, 3) := by decide +kernel
theorem dX1_takesPart_4 : decode cX1_takesPart 4 = .ok (.ifCond .eq 14, 3) := by decide +kernel
theorem dX1_takesPart_7 : decode cX1_takesPart 7 = .ok (.aload_n 0, 1) := by decide +kernel
theorem dX1_takesPart_8 : decode cX1_takesPart 8 = .ok (.invokevirtual 53, 3) := by decide +kernel
theorem dX1_takesPart_11 : decode cX1_takesPart 11 = .ok (.ifCond .ne 7, 3) := by decide +kernel
theorem dX1_takesPart_14 : decode cX1_takesPart 14 = .ok (.iconst 1, 1) := by decide +kernel
theorem dX1_takesPart_15 : decode cX1_takesPart 15 = .ok (.goto 4, 3) := by decide +kernel
theorem dX1_takesPart_18 : decode cX1_takesPart 18 = .ok (.iconst 0, 1) := by decide +kernel
theorem dX1_takesPart_19 : decode cX1_takesPart 19 = .ok (.ireturn, 1) := by decide +kernel
theorem dX1_hasTable_0 : decode cX1_hasTable 0 = .ok (.aload_n 0, 1) := by decide +kernel
theorem dX1_hasTable_1 : decode cX1_hasTable 1 = .ok (.getfield 15, 3) := by decide +kernel
theorem dX1_hasTable_4 : decode cX1_hasTable 4 = .ok (.iconst 1, 1) := by decide +kernel
theorem dX1_hasTable_5 : decode cX1_hasTable 5 = .ok (.if_icmp .lt 15, 3) := by decide +kernel
theorem dX1_hasTable_8 : decode cX1_hasTable 8 = .ok (.aload_n 0, 1) := by decide +kernel
theorem dX1_hasTable_9 : decode cX1_hasTable 9 = .ok (.getfield 15, 3) := by decide +kernel
theorem dX1_hasTable_12 : decode cX1_hasTable 12 = .ok (.iconst 3, 1) := by decide +kernel
theorem dX1_hasTable_13 : decode cX1_hasTable 13 = .ok (.if_icmp .gt 7, 3) := by decide +kernel
theorem dX1_hasTable_16 : decode cX1_hasTable 16 = .ok (.iconst 1, 1) := by decide +kernel
theorem dX1_hasTable_17 : decode cX1_hasTable 17 = .ok (.goto 4, 3) := by decide +kernel
theorem dX1_hasTable_20 : decode cX1_hasTable 20 = .ok (.iconst 0, 1) := by decide +kernel
theorem dX1_hasTable_21 : decode cX1_hasTable 21 = .ok (.ireturn, 1) := by decide +kernel
theorem dX1_tableSize_0 : decode cX1_tableSize 0 = .ok (.aload_n 0, 1) := by decide +kernel
theorem dX1_tableSize_1 : decode cX1_tableSize 1 = .ok (.invokevirtual 56, 3) := by decide +kernel
theorem dX1_tableSize_4 : decode cX1_tableSize 4 = .ok (.ifCond .eq 12, 3) := by decide +kernel
theorem dX1_tableSize_7 : decode cX1_tableSize 7 = .ok (.iconst 1, 1) := by decide +kernel
theorem dX1_tableSize_8 : decode cX1_tableSize 8 = .ok (.aload_n 0, 1) := by decide +kernel
theorem dX1_tableSize_9 : decode cX1_tableSize 9 = .ok (.getfield 19, 3) := by decide +kernel
theorem dX1_tableSize_12 : decode cX1_tableSize 12 = .ok (.ishl, 1) := by decide +kernel
theorem dX1_tableSize_13 : decode cX1_tableSize 13 = .ok (.goto 4, 3) := by decide +kernel
theorem dX1_tableSize_16 : decode cX1_tableSize 16 = .ok (.iconst 0, 1) := by decide +kernel
theorem dX1_tableSize_17 : decode cX1_tableSize 17 = .ok (.ireturn, 1) := by decide +kernel
theorem dX1_slotOf_0 : decode cX1_slotOf 0 = .ok (.iconst 1, 1) := by decide +kernel
theorem dX1_slotOf_1 : decode cX1_slotOf 1 = .ok (.aload_n 0, 1) := by decide +kernel
theorem dX1_slotOf_2 : decode cX1_slotOf 2 = .ok (.getfield 19, 3) := by decide +kernel
theorem dX1_slotOf_5 : decode cX1_slotOf 5 = .ok (.ishl, 1) := by decide +kernel
theorem dX1_slotOf_6 : decode cX1_slotOf 6 = .ok (.iconst 1, 1) := by decide +kernel
theorem dX1_slotOf_7 : decode cX1_slotOf 7 = .ok (.isub, 1) := by decide +kernel
theorem dX1_slotOf_8 : decode cX1_slotOf 8 = .ok (.istore_n 3, 1) := by decide +kernel
theorem dX1_slotOf_9 : decode cX1_slotOf 9 = .ok (.aload_n 0, 1) := by decide +kernel
theorem dX1_slotOf_10 : decode cX1_slotOf 10 = .ok (.getfield 15, 3) := by decide +kernel
theorem dX1_slotOf_13 : decode cX1_slotOf 13 = .ok (.iconst 1, 1) := by decide +kernel
theorem dX1_slotOf_14 : decode cX1_slotOf 14 = .ok (.if_icmp .ne 7, 3) := by decide +kernel
theorem dX1_slotOf_17 : decode cX1_slotOf 17 = .ok (.iload_n 1, 1) := by decide +kernel
theorem dX1_slotOf_18 : decode cX1_slotOf 18 = .ok (.iload_n 3, 1) := by decide +kernel
theorem dX1_slotOf_19 : decode cX1_slotOf 19 = .ok (.iand, 1) := by decide +kernel
theorem dX1_slotOf_20 : decode cX1_slotOf 20 = .ok (.ireturn, 1) := by decide +kernel
theorem dX1_slotOf_21 : decode cX1_slotOf 21 = .ok (.aload_n 0, 1) := by decide +kernel
theorem dX1_slotOf_22 : decode cX1_slotOf 22 = .ok (.getfield 15, 3) := by decide +kernel
theorem dX1_slotOf_25 : decode cX1_slotOf 25 = .ok (.iconst 2, 1) := by decide +kernel
theorem dX1_slotOf_26 : decode cX1_slotOf 26 = .ok (.if_icmp .ne 7, 3) := by decide +kernel
theorem dX1_slotOf_29 : decode cX1_slotOf 29 = .ok (.iload_n 2, 1) := by decide +kernel
theorem dX1_slotOf_30 : decode cX1_slotOf 30 = .ok (.goto 6, 3) := by decide +kernel
theorem dX1_slotOf_33 : decode cX1_slotOf 33 = .ok (.iload_n 1, 1) := by decide +kernel
theorem dX1_slotOf_34 : decode cX1_slotOf 34 = .ok (.iload_n 2, 1) := by decide +kernel
theorem dX1_slotOf_35 : decode cX1_slotOf 35 = .ok (.ixor, 1) := by decide +kernel
theorem dX1_slotOf_36 : decode cX1_slotOf 36 = .ok (.iload_n 3, 1) := by decide +kernel
theorem dX1_slotOf_37 : decode cX1_slotOf 37 = .ok (.iand, 1) := by decide +kernel
theorem dX1_slotOf_38 : decode cX1_slotOf 38 = .ok (.ireturn, 1) := by decide +kernel
theorem dX1_wordOfItsOwn_0 : decode cX1_wordOfItsOwn 0 = .ok (.aload_n 0, 1) := by decide +kernel
theorem dX1_wordOfItsOwn_1 : decode cX1_wordOfItsOwn 1 = .ok (.invokevirtual 56, 3) := by decide +kernel
theorem dX1_wordOfItsOwn_4 : decode cX1_wordOfItsOwn 4 = .ok (.ifCond .ne 8, 3) := by decide +kernel
theorem dX1_wordOfItsOwn_7 : decode cX1_wordOfItsOwn 7 = .ok (.aload_n 0, 1) := by decide +kernel
theorem dX1_wordOfItsOwn_8 : decode cX1_wordOfItsOwn 8 = .ok (.getfield 19, 3) := by decide +kernel
theorem dX1_wordOfItsOwn_11 : decode cX1_wordOfItsOwn 11 = .ok (.ireturn, 1) := by decide +kernel
theorem dX1_wordOfItsOwn_12 : decode cX1_wordOfItsOwn 12 = .ok (.aload_n 0, 1) := by decide +kernel
theorem dX1_wordOfItsOwn_13 : decode cX1_wordOfItsOwn 13 = .ok (.getfield 9, 3) := by decide +kernel
theorem dX1_wordOfItsOwn_16 : decode cX1_wordOfItsOwn 16 = .ok (.aload_n 0, 1) := by decide +kernel
theorem dX1_wordOfItsOwn_17 : decode cX1_wordOfItsOwn 17 = .ok (.iload_n 1, 1) := by decide +kernel
theorem dX1_wordOfItsOwn_18 : decode cX1_wordOfItsOwn 18 = .ok (.iload_n 2, 1) := by decide +kernel
theorem dX1_wordOfItsOwn_19 : decode cX1_wordOfItsOwn 19 = .ok (.invokevirtual 59, 3) := by decide +kernel
theorem dX1_wordOfItsOwn_22 : decode cX1_wordOfItsOwn 22 = .ok (.iaload, 1) := by decide +kernel
theorem dX1_wordOfItsOwn_23 : decode cX1_wordOfItsOwn 23 = .ok (.iconst 2, 1) := by decide +kernel
theorem dX1_wordOfItsOwn_24 : decode cX1_wordOfItsOwn 24 = .ok (.if_icmp .lt 7, 3) := by decide +kernel
theorem dX1_wordOfItsOwn_27 : decode cX1_wordOfItsOwn 27 = .ok (.iconst 1, 1) := by decide +kernel
theorem dX1_wordOfItsOwn_28 : decode cX1_wordOfItsOwn 28 = .ok (.goto 4, 3) := by decide +kernel
theorem dX1_wordOfItsOwn_31 : decode cX1_wordOfItsOwn 31 = .ok (.iconst 0, 1) := by decide +kernel
theorem dX1_wordOfItsOwn_32 : decode cX1_wordOfItsOwn 32 = .ok (.ireturn, 1) := by decide +kernel
theorem dX1_stakeNow_0 : decode cX1_stakeNow 0 = .ok (.aload_n 0, 1) := by decide +kernel
theorem dX1_stakeNow_1 : decode cX1_stakeNow 1 = .ok (.invokevirtual 63, 3) := by decide +kernel
theorem dX1_stakeNow_4 : decode cX1_stakeNow 4 = .ok (.ifCond .ne 5, 3) := by decide +kernel
theorem dX1_stakeNow_7 : decode cX1_stakeNow 7 = .ok (.iconst 0, 1) := by decide +kernel
theorem dX1_stakeNow_8 : decode cX1_stakeNow 8 = .ok (.ireturn, 1) := by decide +kernel
theorem dX1_stakeNow_9 : decode cX1_stakeNow 9 = .ok (.iconst 0, 1) := by decide +kernel
theorem dX1_stakeNow_10 : decode cX1_stakeNow 10 = .ok (.istore 4, 2) := by decide +kernel
theorem dX1_stakeNow_12 : decode cX1_stakeNow 12 = .ok (.aload_n 0, 1) := by decide +kernel
theorem dX1_stakeNow_13 : decode cX1_stakeNow 13 = .ok (.invokevirtual 56, 3) := by decide +kernel
theorem dX1_stakeNow_16 : decode cX1_stakeNow 16 = .ok (.ifCond .eq 34, 3) := by decide +kernel
theorem dX1_stakeNow_19 : decode cX1_stakeNow 19 = .ok (.aload_n 0, 1) := by decide +kernel
theorem dX1_stakeNow_20 : decode cX1_stakeNow 20 = .ok (.getfield 9, 3) := by decide +kernel
theorem dX1_stakeNow_23 : decode cX1_stakeNow 23 = .ok (.aload_n 0, 1) := by decide +kernel
theorem dX1_stakeNow_24 : decode cX1_stakeNow 24 = .ok (.iload_n 2, 1) := by decide +kernel
theorem dX1_stakeNow_25 : decode cX1_stakeNow 25 = .ok (.iload_n 3, 1) := by decide +kernel
theorem dX1_stakeNow_26 : decode cX1_stakeNow 26 = .ok (.invokevirtual 59, 3) := by decide +kernel
theorem dX1_stakeNow_29 : decode cX1_stakeNow 29 = .ok (.iaload, 1) := by decide +kernel
theorem dX1_stakeNow_30 : decode cX1_stakeNow 30 = .ok (.istore 5, 2) := by decide +kernel
theorem dX1_stakeNow_32 : decode cX1_stakeNow 32 = .ok (.iload 5, 2) := by decide +kernel
theorem dX1_stakeNow_34 : decode cX1_stakeNow 34 = .ok (.ifCond .eq 9, 3) := by decide +kernel
theorem dX1_stakeNow_37 : decode cX1_stakeNow 37 = .ok (.iload 5, 2) := by decide +kernel
theorem dX1_stakeNow_39 : decode cX1_stakeNow 39 = .ok (.iconst 3, 1) := by decide +kernel
theorem dX1_stakeNow_40 : decode cX1_stakeNow 40 = .ok (.if_icmp .ne 7, 3) := by decide +kernel
theorem dX1_stakeNow_43 : decode cX1_stakeNow 43 = .ok (.iconst 1, 1) := by decide +kernel
theorem dX1_stakeNow_44 : decode cX1_stakeNow 44 = .ok (.goto 4, 3) := by decide +kernel
theorem dX1_stakeNow_47 : decode cX1_stakeNow 47 = .ok (.iconst 0, 1) := by decide +kernel
theorem dX1_stakeNow_48 : decode cX1_stakeNow 48 = .ok (.istore 4, 2) := by decide +kernel
theorem dX1_stakeNow_50 : decode cX1_stakeNow 50 = .ok (.aload_n 0, 1) := by decide +kernel
theorem dX1_stakeNow_51 : decode cX1_stakeNow 51 = .ok (.getfield 22, 3) := by decide +kernel
theorem dX1_stakeNow_54 : decode cX1_stakeNow 54 = .ok (.iload 4, 2) := by decide +kernel
theorem dX1_stakeNow_56 : decode cX1_stakeNow 56 = .ok (.ifCond .eq 9, 3) := by decide +kernel
theorem dX1_stakeNow_59 : decode cX1_stakeNow 59 = .ok (.iconst 2, 1) := by decide +kernel
theorem dX1_stakeNow_60 : decode cX1_stakeNow 60 = .ok (.iload_n 1, 1) := by decide +kernel
theorem dX1_stakeNow_61 : decode cX1_stakeNow 61 = .ok (.imul, 1) := by decide +kernel
theorem dX1_stakeNow_62 : decode cX1_stakeNow 62 = .ok (.goto 4, 3) := by decide +kernel
theorem dX1_stakeNow_65 : decode cX1_stakeNow 65 = .ok (.iload_n 1, 1) := by decide +kernel
theorem dX1_stakeNow_66 : decode cX1_stakeNow 66 = .ok (.invokestatic 66, 3) := by decide +kernel
theorem dX1_stakeNow_69 : decode cX1_stakeNow 69 = .ok (.ireturn, 1) := by decide +kernel
theorem dX1_learn_0 : decode cX1_learn 0 = .ok (.aload_n 0, 1) := by decide +kernel
theorem dX1_learn_1 : decode cX1_learn 1 = .ok (.iload_n 1, 1) := by decide +kernel
theorem dX1_learn_2 : decode cX1_learn 2 = .ok (.iload_n 3, 1) := by decide +kernel
theorem dX1_learn_3 : decode cX1_learn 3 = .ok (.invokevirtual 59, 3) := by decide +kernel
theorem dX1_learn_6 : decode cX1_learn 6 = .ok (.istore 4, 2) := by decide +kernel
theorem dX1_learn_8 : decode cX1_learn 8 = .ok (.aload_n 0, 1) := by decide +kernel
theorem dX1_learn_9 : decode cX1_learn 9 = .ok (.getfield 9, 3) := by decide +kernel
theorem dX1_learn_12 : decode cX1_learn 12 = .ok (.iload 4, 2) := by decide +kernel
theorem dX1_learn_14 : decode cX1_learn 14 = .ok (.iload_n 2, 1) := by decide +kernel
theorem dX1_learn_15 : decode cX1_learn 15 = .ok (.iconst 1, 1) := by decide +kernel
theorem dX1_learn_16 : decode cX1_learn 16 = .ok (.if_icmp .ne 19, 3) := by decide +kernel
theorem dX1_learn_19 : decode cX1_learn 19 = .ok (.iconst 3, 1) := by decide +kernel
theorem dX1_learn_20 : decode cX1_learn 20 = .ok (.aload_n 0, 1) := by decide +kernel
theorem dX1_learn_21 : decode cX1_learn 21 = .ok (.getfield 9, 3) := by decide +kernel
theorem dX1_learn_24 : decode cX1_learn 24 = .ok (.iload 4, 2) := by decide +kernel
theorem dX1_learn_26 : decode cX1_learn 26 = .ok (.iaload, 1) := by decide +kernel
theorem dX1_learn_27 : decode cX1_learn 27 = .ok (.iconst 1, 1) := by decide +kernel
theorem dX1_learn_28 : decode cX1_learn 28 = .ok (.iadd, 1) := by decide +kernel
theorem dX1_learn_29 : decode cX1_learn 29 = .ok (.invokestatic 66, 3) := by decide +kernel
theorem dX1_learn_32 : decode cX1_learn 32 = .ok (.goto 16, 3) := by decide +kernel
theorem dX1_learn_35 : decode cX1_learn 35 = .ok (.iconst 0, 1) := by decide +kernel
theorem dX1_learn_36 : decode cX1_learn 36 = .ok (.aload_n 0, 1) := by decide +kernel
theorem dX1_learn_37 : decode cX1_learn 37 = .ok (.getfield 9, 3) := by decide +kernel
theorem dX1_learn_40 : decode cX1_learn 40 = .ok (.iload 4, 2) := by decide +kernel
theorem dX1_learn_42 : decode cX1_learn 42 = .ok (.iaload, 1) := by decide +kernel
theorem dX1_learn_43 : decode cX1_learn 43 = .ok (.iconst 1, 1) := by decide +kernel
theorem dX1_learn_44 : decode cX1_learn 44 = .ok (.isub, 1) := by decide +kernel
theorem dX1_learn_45 : decode cX1_learn 45 = .ok (.invokestatic 71, 3) := by decide +kernel
theorem dX1_learn_48 : decode cX1_learn 48 = .ok (.iastore, 1) := by decide +kernel
theorem dX1_learn_49 : decode cX1_learn 49 = .ok (.return_, 1) := by decide +kernel
theorem dX1_note_0 : decode cX1_note 0 = .ok (.iload_n 1, 1) := by decide +kernel
theorem dX1_note_1 : decode cX1_note 1 = .ok (.ifCond .eq 16, 3) := by decide +kernel
theorem dX1_note_4 : decode cX1_note 4 = .ok (.aload_n 0, 1) := by decide +kernel
theorem dX1_note_5 : decode cX1_note 5 = .ok (.dup, 1) := by decide +kernel
theorem dX1_note_6 : decode cX1_note 6 = .ok (.getfield 31, 3) := by decide +kernel
theorem dX1_note_9 : decode cX1_note 9 = .ok (.iconst 1, 1) := by decide +kernel
theorem dX1_note_10 : decode cX1_note 10 = .ok (.iadd, 1) := by decide +kernel
theorem dX1_note_11 : decode cX1_note 11 = .ok (.putfield 31, 3) := by decide +kernel
theorem dX1_note_14 : decode cX1_note 14 = .ok (.goto 13, 3) := by decide +kernel
theorem dX1_note_17 : decode cX1_note 17 = .ok (.aload_n 0, 1) := by decide +kernel
theorem dX1_note_18 : decode cX1_note 18 = .ok (.dup, 1) := by decide +kernel
theorem dX1_note_19 : decode cX1_note 19 = .ok (.getfield 34, 3) := by decide +kernel
theorem dX1_note_22 : decode cX1_note 22 = .ok (.iconst 1, 1) := by decide +kernel
theorem dX1_note_23 : decode cX1_note 23 = .ok (.iadd, 1) := by decide +kernel
theorem dX1_note_24 : decode cX1_note 24 = .ok (.putfield 34, 3) := by decide +kernel
theorem dX1_note_27 : decode cX1_note 27 = .ok (.aload_n 0, 1) := by decide +kernel
theorem dX1_note_28 : decode cX1_note 28 = .ok (.iconst 2, 1) := by decide +kernel
theorem dX1_note_29 : decode cX1_note 29 = .ok (.aload_n 0, 1) := by decide +kernel
theorem dX1_note_30 : decode cX1_note 30 = .ok (.getfield 37, 3) := by decide +kernel
theorem dX1_note_33 : decode cX1_note 33 = .ok (.imul, 1) := by decide +kernel
theorem dX1_note_34 : decode cX1_note 34 = .ok (.iload_n 1, 1) := by decide +kernel
theorem dX1_note_35 : decode cX1_note 35 = .ok (.ifCond .eq 7, 3) := by decide +kernel
theorem dX1_note_38 : decode cX1_note 38 = .ok (.iconst 1, 1) := by decide +kernel
theorem dX1_note_39 : decode cX1_note 39 = .ok (.goto 4, 3) := by decide +kernel
theorem dX1_note_42 : decode cX1_note 42 = .ok (.iconst 0, 1) := by decide +kernel
theorem dX1_note_43 : decode cX1_note 43 = .ok (.iadd, 1) := by decide +kernel
theorem dX1_note_44 : decode cX1_note 44 = .ok (.ldc 74, 2) := by decide +kernel
theorem dX1_note_46 : decode cX1_note 46 = .ok (.iand, 1) := by decide +kernel
theorem dX1_note_47 : decode cX1_note 47 = .ok (.putfield 37, 3) := by decide +kernel
theorem dX1_note_50 : decode cX1_note 50 = .ok (.aload_n 0, 1) := by decide +kernel
theorem dX1_note_51 : decode cX1_note 51 = .ok (.invokevirtual 53, 3) := by decide +kernel
theorem dX1_note_54 : decode cX1_note 54 = .ok (.ifCond .eq 13, 3) := by decide +kernel
theorem dX1_note_57 : decode cX1_note 57 = .ok (.aload_n 0, 1) := by decide +kernel
theorem dX1_note_58 : decode cX1_note 58 = .ok (.dup, 1) := by decide +kernel
theorem dX1_note_59 : decode cX1_note 59 = .ok (.getfield 40, 3) := by decide +kernel
theorem dX1_note_62 : decode cX1_note 62 = .ok (.iconst 1, 1) := by decide +kernel
theorem dX1_note_63 : decode cX1_note 63 = .ok (.iadd, 1) := by decide +kernel
theorem dX1_note_64 : decode cX1_note 64 = .ok (.putfield 40, 3) := by decide +kernel
theorem dX1_note_67 : decode cX1_note 67 = .ok (.return_, 1) := by decide +kernel
theorem dX2_init_0 : decode cX2_init 0 = .ok (.aload_n 0, 1) := by decide +kernel
theorem dX2_init_1 : decode cX2_init 1 = .ok (.invokespecial 3, 3) := by decide +kernel
theorem dX2_init_4 : decode cX2_init 4 = .ok (.aload_n 0, 1) := by decide +kernel
theorem dX2_init_5 : decode cX2_init 5 = .ok (.iconst 4, 1) := by decide +kernel
theorem dX2_init_6 : decode cX2_init 6 = .ok (.anewarray 9, 3) := by decide +kernel
theorem dX2_init_9 : decode cX2_init 9 = .ok (.putfield 11, 3) := by decide +kernel
theorem dX2_init_12 : decode cX2_init 12 = .ok (.iconst 0, 1) := by decide +kernel
theorem dX2_init_13 : decode cX2_init 13 = .ok (.istore_n 1, 1) := by decide +kernel
theorem dX2_init_14 : decode cX2_init 14 = .ok (.iload_n 1, 1) := by decide +kernel
theorem dX2_init_15 : decode cX2_init 15 = .ok (.iconst 4, 1) := by decide +kernel
theorem dX2_init_16 : decode cX2_init 16 = .ok (.if_icmp .ge 22, 3) := by decide +kernel
theorem dX2_init_19 : decode cX2_init 19 = .ok (.aload_n 0, 1) := by decide +kernel
theorem dX2_init_20 : decode cX2_init 20 = .ok (.getfield 11, 3) := by decide +kernel
theorem dX2_init_23 : decode cX2_init 23 = .ok (.iload_n 1, 1) := by decide +kernel
theorem dX2_init_24 : decode cX2_init 24 = .ok (.new 9, 3) := by decide +kernel
theorem dX2_init_27 : decode cX2_init 27 = .ok (.dup, 1) := by decide +kernel
theorem dX2_init_28 : decode cX2_init 28 = .ok (.invokespecial 17, 3) := by decide +kernel
theorem dX2_init_31 : decode cX2_init 31 = .ok (.aastore, 1) := by decide +kernel
theorem dX2_init_32 : decode cX2_init 32 = .ok (.iinc 1 1, 3) := by decide +kernel
theorem dX2_init_35 : decode cX2_init 35 = .ok (.goto (-21), 3) := by decide +kernel
theorem dX2_init_38 : decode cX2_init 38 = .ok (.return_, 1) := by decide +kernel
theorem dX2_keep_0 : decode cX2_keep 0 = .ok (.aload_n 0, 1) := by decide +kernel
theorem dX2_keep_1 : decode cX2_keep 1 = .ok (.getfield 11, 3) := by decide +kernel
theorem dX2_keep_4 : decode cX2_keep 4 = .ok (.aload_n 0, 1) := by decide +kernel
theorem dX2_keep_5 : decode cX2_keep 5 = .ok (.getfield 18, 3) := by decide +kernel
theorem dX2_keep_8 : decode cX2_keep 8 = .ok (.aload_n 0, 1) := by decide +kernel
theorem dX2_keep_9 : decode cX2_keep 9 = .ok (.getfield 22, 3) := by decide +kernel
theorem dX2_keep_12 : decode cX2_keep 12 = .ok (.iadd, 1) := by decide +kernel
theorem dX2_keep_13 : decode cX2_keep 13 = .ok (.iconst 4, 1) := by decide +kernel
theorem dX2_keep_14 : decode cX2_keep 14 = .ok (.irem, 1) := by decide +kernel
theorem dX2_keep_15 : decode cX2_keep 15 = .ok (.aaload, 1) := by decide +kernel
theorem dX2_keep_16 : decode cX2_keep 16 = .ok (.aload_n 1, 1) := by decide +kernel
theorem dX2_keep_17 : decode cX2_keep 17 = .ok (.invokevirtual 25, 3) := by decide +kernel
theorem dX2_keep_20 : decode cX2_keep 20 = .ok (.aload_n 0, 1) := by decide +kernel
theorem dX2_keep_21 : decode cX2_keep 21 = .ok (.getfield 22, 3) := by decide +kernel
theorem dX2_keep_24 : decode cX2_keep 24 = .ok (.iconst 4, 1) := by decide +kernel
theorem dX2_keep_25 : decode cX2_keep 25 = .ok (.if_icmp .ge 16, 3) := by decide +kernel
theorem dX2_keep_28 : decode cX2_keep 28 = .ok (.aload_n 0, 1) := by decide +kernel
theorem dX2_keep_29 : decode cX2_keep 29 = .ok (.dup, 1) := by decide +kernel
theorem dX2_keep_30 : decode cX2_keep 30 = .ok (.getfield 22, 3) := by decide +kernel
theorem dX2_keep_33 : decode cX2_keep 33 = .ok (.iconst 1, 1) := by decide +kernel
theorem dX2_keep_34 : decode cX2_keep 34 = .ok (.iadd, 1) := by decide +kernel
theorem dX2_keep_35 : decode cX2_keep 35 = .ok (.putfield 22, 3) := by decide +kernel
theorem dX2_keep_38 : decode cX2_keep 38 = .ok (.goto 15, 3) := by decide +kernel
theorem dX2_keep_41 : decode cX2_keep 41 = .ok (.aload_n 0, 1) := by decide +kernel
theorem dX2_keep_42 : decode cX2_keep 42 = .ok (.aload_n 0, 1) := by decide +kernel
theorem dX2_keep_43 : decode cX2_keep 43 = .ok (.getfield 18, 3) := by decide +kernel
theorem dX2_keep_46 : decode cX2_keep 46 = .ok (.iconst 1, 1) := by decide +kernel
theorem dX2_keep_47 : decode cX2_keep 47 = .ok (.iadd, 1) := by decide +kernel
theorem dX2_keep_48 : decode cX2_keep 48 = .ok (.iconst 4, 1) := by decide +kernel
theorem dX2_keep_49 : decode cX2_keep 49 = .ok (.irem, 1) := by decide +kernel
theorem dX2_keep_50 : decode cX2_keep 50 = .ok (.putfield 18, 3) := by decide +kernel
theorem dX2_keep_53 : decode cX2_keep 53 = .ok (.return_, 1) := by decide +kernel
theorem dX3_init_0 : decode cX3_init 0 = .ok (.aload_n 0, 1) := by decide +kernel
theorem dX3_init_1 : decode cX3_init 1 = .ok (.invokespecial 3, 3) := by decide +kernel
theorem dX3_init_4 : decode cX3_init 4 = .ok (.aload_n 0, 1) := by decide +kernel
theorem dX3_init_5 : decode cX3_init 5 = .ok (.bipush 6, 2) := by decide +kernel
theorem dX3_init_7 : decode cX3_init 7 = .ok (.anewarray 9, 3) := by decide +kernel
theorem dX3_init_10 : decode cX3_init 10 = .ok (.putfield 11, 3) := by decide +kernel
theorem dX3_init_13 : decode cX3_init 13 = .ok (.iconst 0, 1) := by decide +kernel
theorem dX3_init_14 : decode cX3_init 14 = .ok (.istore_n 1, 1) := by decide +kernel
theorem dX3_init_15 : decode cX3_init 15 = .ok (.iload_n 1, 1) := by decide +kernel
theorem dX3_init_16 : decode cX3_init 16 = .ok (.bipush 6, 2) := by decide +kernel
theorem dX3_init_18 : decode cX3_init 18 = .ok (.if_icmp .ge 22, 3) := by decide +kernel
theorem dX3_init_21 : decode cX3_init 21 = .ok (.aload_n 0, 1) := by decide +kernel
theorem dX3_init_22 : decode cX3_init 22 = .ok (.getfield 11, 3) := by decide +kernel
theorem dX3_init_25 : decode cX3_init 25 = .ok (.iload_n 1, 1) := by decide +kernel
theorem dX3_init_26 : decode cX3_init 26 = .ok (.new 9, 3) := by decide +kernel
theorem dX3_init_29 : decode cX3_init 29 = .ok (.dup, 1) := by decide +kernel
theorem dX3_init_30 : decode cX3_init 30 = .ok (.invokespecial 17, 3) := by decide +kernel
theorem dX3_init_33 : decode cX3_init 33 = .ok (.aastore, 1) := by decide +kernel
theorem dX3_init_34 : decode cX3_init 34 = .ok (.iinc 1 1, 3) := by decide +kernel
theorem dX3_init_37 : decode cX3_init 37 = .ok (.goto (-22), 3) := by decide +kernel
theorem dX3_init_40 : decode cX3_init 40 = .ok (.aload_n 0, 1) := by decide +kernel
theorem dX3_init_41 : decode cX3_init 41 = .ok (.bipush 8, 2) := by decide +kernel
theorem dX3_init_43 : decode cX3_init 43 = .ok (.anewarray 18, 3) := by decide +kernel
theorem dX3_init_46 : decode cX3_init 46 = .ok (.putfield 20, 3) := by decide +kernel
theorem dX3_init_49 : decode cX3_init 49 = .ok (.iconst 0, 1) := by decide +kernel
theorem dX3_init_50 : decode cX3_init 50 = .ok (.istore_n 1, 1) := by decide +kernel
theorem dX3_init_51 : decode cX3_init 51 = .ok (.iload_n 1, 1) := by decide +kernel
theorem dX3_init_52 : decode cX3_init 52 = .ok (.bipush 8, 2) := by decide +kernel
theorem dX3_init_54 : decode cX3_init 54 = .ok (.if_icmp .ge 22, 3) := by decide +kernel
theorem dX3_init_57 : decode cX3_init 57 = .ok (.aload_n 0, 1) := by decide +kernel
theorem dX3_init_58 : decode cX3_init 58 = .ok (.getfield 20, 3) := by decide +kernel
theorem dX3_init_61 : decode cX3_init 61 = .ok (.iload_n 1, 1) := by decide +kernel
theorem dX3_init_62 : decode cX3_init 62 = .ok (.new 18, 3) := by decide +kernel
theorem dX3_init_65 : decode cX3_init 65 = .ok (.dup, 1) := by decide +kernel
theorem dX3_init_66 : decode cX3_init 66 = .ok (.invokespecial 24, 3) := by decide +kernel
theorem dX3_init_69 : decode cX3_init 69 = .ok (.aastore, 1) := by decide +kernel
theorem dX3_init_70 : decode cX3_init 70 = .ok (.iinc 1 1, 3) := by decide +kernel
theorem dX3_init_73 : decode cX3_init 73 = .ok (.goto (-22), 3) := by decide +kernel
theorem dX3_init_76 : decode cX3_init 76 = .ok (.aload_n 0, 1) := by decide +kernel
theorem dX3_init_77 : decode cX3_init 77 = .ok (.iconst 3, 1) := by decide +kernel
theorem dX3_init_78 : decode cX3_init 78 = .ok (.newarray .int, 2) := by decide +kernel
theorem dX3_init_80 : decode cX3_init 80 = .ok (.putfield 25, 3) := by decide +kernel
theorem dX3_init_83 : decode cX3_init 83 = .ok (.iconst 0, 1) := by decide +kernel
theorem dX3_init_84 : decode cX3_init 84 = .ok (.istore_n 1, 1) := by decide +kernel
theorem dX3_init_85 : decode cX3_init 85 = .ok (.iload_n 1, 1) := by decide +kernel
theorem dX3_init_86 : decode cX3_init 86 = .ok (.iconst 3, 1) := by decide +kernel
theorem dX3_init_87 : decode cX3_init 87 = .ok (.if_icmp .ge 20, 3) := by decide +kernel
theorem dX3_init_90 : decode cX3_init 90 = .ok (.aload_n 0, 1) := by decide +kernel
theorem dX3_init_91 : decode cX3_init 91 = .ok (.getfield 25, 3) := by decide +kernel
theorem dX3_init_94 : decode cX3_init 94 = .ok (.iload_n 1, 1) := by decide +kernel
theorem dX3_init_95 : decode cX3_init 95 = .ok (.getstatic 29, 3) := by decide +kernel
theorem dX3_init_98 : decode cX3_init 98 = .ok (.iload_n 1, 1) := by decide +kernel
theorem dX3_init_99 : decode cX3_init 99 = .ok (.iaload, 1) := by decide +kernel
theorem dX3_init_100 : decode cX3_init 100 = .ok (.iastore, 1) := by decide +kernel
theorem dX3_init_101 : decode cX3_init 101 = .ok (.iinc 1 1, 3) := by decide +kernel
theorem dX3_init_104 : decode cX3_init 104 = .ok (.goto (-19), 3) := by decide +kernel
theorem dX3_init_107 : decode cX3_init 107 = .ok (.return_, 1) := by decide +kernel
theorem dX3_copyFrom_0 : decode cX3_copyFrom 0 = .ok (.aload_n 0, 1) := by decide +kernel
theorem dX3_copyFrom_1 : decode cX3_copyFrom 1 = .ok (.aload_n 1, 1) := by decide +kernel
theorem dX3_copyFrom_2 : decode cX3_copyFrom 2 = .ok (.getfield 32, 3) := by decide +kernel
theorem dX3_copyFrom_5 : decode cX3_copyFrom 5 = .ok (.putfield 32, 3) := by decide +kernel
theorem dX3_copyFrom_8 : decode cX3_copyFrom 8 = .ok (.iconst 0, 1) := by decide +kernel
theorem dX3_copyFrom_9 : decode cX3_copyFrom 9 = .ok (.istore_n 2, 1) := by decide +kernel
theorem dX3_copyFrom_10 : decode cX3_copyFrom 10 = .ok (.iload_n 2, 1) := by decide +kernel
theorem dX3_copyFrom_11 : decode cX3_copyFrom 11 = .ok (.aload_n 0, 1) := by decide +kernel
theorem dX3_copyFrom_12 : decode cX3_copyFrom 12 = .ok (.getfield 32, 3) := by decide +kernel
theorem dX3_copyFrom_15 : decode cX3_copyFrom 15 = .ok (.if_icmp .ge 24, 3) := by decide +kernel
theorem dX3_copyFrom_18 : decode cX3_copyFrom 18 = .ok (.aload_n 0, 1) := by decide +kernel
theorem dX3_copyFrom_19 : decode cX3_copyFrom 19 = .ok (.getfield 11, 3) := by decide +kernel
theorem dX3_copyFrom_22 : decode cX3_copyFrom 22 = .ok (.iload_n 2, 1) := by decide +kernel
theorem dX3_copyFrom_23 : decode cX3_copyFrom 23 = .ok (.aaload, 1) := by decide +kernel
theorem dX3_copyFrom_24 : decode cX3_copyFrom 24 = .ok (.aload_n 1, 1) := by decide +kernel
theorem dX3_copyFrom_25 : decode cX3_copyFrom 25 = .ok (.getfield 11, 3) := by decide +kernel
theorem dX3_copyFrom_28 : decode cX3_copyFrom 28 = .ok (.iload_n 2, 1) := by decide +kernel
theorem dX3_copyFrom_29 : decode cX3_copyFrom 29 = .ok (.aaload, 1) := by decide +kernel
theorem dX3_copyFrom_30 : decode cX3_copyFrom 30 = .ok (.invokevirtual 36, 3) := by decide +kernel
theorem dX3_copyFrom_33 : decode cX3_copyFrom 33 = .ok (.iinc 2 1, 3) := by decide +kernel
theorem dX3_copyFrom_36 : decode cX3_copyFrom 36 = .ok (.goto (-26), 3) := by decide +kernel
theorem dX3_copyFrom_39 : decode cX3_copyFrom 39 = .ok (.aload_n 0, 1) := by decide +kernel
theorem dX3_copyFrom_40 : decode cX3_copyFrom 40 = .ok (.aload_n 1, 1) := by decide +kernel
theorem dX3_copyFrom_41 : decode cX3_copyFrom 41 = .ok (.getfield 40, 3) := by decide +kernel
theorem dX3_copyFrom_44 : decode cX3_copyFrom 44 = .ok (.putfield 40, 3) := by decide +kernel
theorem dX3_copyFrom_47 : decode cX3_copyFrom 47 = .ok (.iconst 0, 1) := by decide +kernel
theorem dX3_copyFrom_48 : decode cX3_copyFrom 48 = .ok (.istore_n 2, 1) := by decide +kernel
theorem dX3_copyFrom_49 : decode cX3_copyFrom 49 = .ok (.iload_n 2, 1) := by decide +kernel
theorem dX3_copyFrom_50 : decode cX3_copyFrom 50 = .ok (.aload_n 0, 1) := by decide +kernel
theorem dX3_copyFrom_51 : decode cX3_copyFrom 51 = .ok (.getfield 40, 3) := by decide +kernel
theorem dX3_copyFrom_54 : decode cX3_copyFrom 54 = .ok (.if_icmp .ge 24, 3) := by decide +kernel
theorem dX3_copyFrom_57 : decode cX3_copyFrom 57 = .ok (.aload_n 0, 1) := by decide +kernel
theorem dX3_copyFrom_58 : decode cX3_copyFrom 58 = .ok (.getfield 20, 3) := by decide +kernel
theorem dX3_copyFrom_61 : decode cX3_copyFrom 61 = .ok (.iload_n 2, 1) := by decide +kernel
theorem dX3_copyFrom_62 : decode cX3_copyFrom 62 = .ok (.aaload, 1) := by decide +kernel
theorem dX3_copyFrom_63 : decode cX3_copyFrom 63 = .ok (.aload_n 1, 1) := by decide +kernel
theorem dX3_copyFrom_64 : decode cX3_copyFrom 64 = .ok (.getfield 20, 3) := by decide +kernel
theorem dX3_copyFrom_67 : decode cX3_copyFrom 67 = .ok (.iload_n 2, 1) := by decide +kernel
theorem dX3_copyFrom_68 : decode cX3_copyFrom 68 = .ok (.aaload, 1) := by decide +kernel
theorem dX3_copyFrom_69 : decode cX3_copyFrom 69 = .ok (.invokevirtual 43, 3) := by decide +kernel
theorem dX3_copyFrom_72 : decode cX3_copyFrom 72 = .ok (.iinc 2 1, 3) := by decide +kernel
theorem dX3_copyFrom_75 : decode cX3_copyFrom 75 = .ok (.goto (-26), 3) := by decide +kernel
theorem dX3_copyFrom_78 : decode cX3_copyFrom 78 = .ok (.aload_n 1, 1) := by decide +kernel
theorem dX3_copyFrom_79 : decode cX3_copyFrom 79 = .ok (.getfield 25, 3) := by decide +kernel
theorem dX3_copyFrom_82 : decode cX3_copyFrom 82 = .ok (.iconst 0, 1) := by decide +kernel
theorem dX3_copyFrom_83 : decode cX3_copyFrom 83 = .ok (.aload_n 0, 1) := by decide +kernel
theorem dX3_copyFrom_84 : decode cX3_copyFrom 84 = .ok (.getfield 25, 3) := by decide +kernel
theorem dX3_copyFrom_87 : decode cX3_copyFrom 87 = .ok (.iconst 0, 1) := by decide +kernel
theorem dX3_copyFrom_88 : decode cX3_copyFrom 88 = .ok (.iconst 3, 1) := by decide +kernel
theorem dX3_copyFrom_89 : decode cX3_copyFrom 89 = .ok (.invokestatic 46, 3) := by decide +kernel
theorem dX3_copyFrom_92 : decode cX3_copyFrom 92 = .ok (.aload_n 0, 1) := by decide +kernel
theorem dX3_copyFrom_93 : decode cX3_copyFrom 93 = .ok (.aload_n 1, 1) := by decide +kernel
theorem dX3_copyFrom_94 : decode cX3_copyFrom 94 = .ok (.getfield 52, 3) := by decide +kernel
theorem dX3_copyFrom_97 : decode cX3_copyFrom 97 = .ok (.putfield 52, 3) := by decide +kernel
theorem dX3_copyFrom_100 : decode cX3_copyFrom 100 = .ok (.aload_n 0, 1) := by decide +kernel
theorem dX3_copyFrom_101 : decode cX3_copyFrom 101 = .ok (.aload_n 1, 1) := by decide +kernel
theorem dX3_copyFrom_102 : decode cX3_copyFrom 102 = .ok (.getfield 55, 3) := by decide +kernel
theorem dX3_copyFrom_105 : decode cX3_copyFrom 105 = .ok (.putfield 55, 3) := by decide +kernel
theorem dX3_copyFrom_108 : decode cX3_copyFrom 108 = .ok (.aload_n 0, 1) := by decide +kernel
theorem dX3_copyFrom_109 : decode cX3_copyFrom 109 = .ok (.aload_n 1, 1) := by decide +kernel
theorem dX3_copyFrom_110 : decode cX3_copyFrom 110 = .ok (.getfield 58, 3) := by decide +kernel
theorem dX3_copyFrom_113 : decode cX3_copyFrom 113 = .ok (.putfield 58, 3) := by decide +kernel
theorem dX3_copyFrom_116 : decode cX3_copyFrom 116 = .ok (.aload_n 0, 1) := by decide +kernel
theorem dX3_copyFrom_117 : decode cX3_copyFrom 117 = .ok (.aload_n 1, 1) := by decide +kernel
theorem dX3_copyFrom_118 : decode cX3_copyFrom 118 = .ok (.getfield 61, 3) := by decide +kernel
theorem dX3_copyFrom_121 : decode cX3_copyFrom 121 = .ok (.putfield 61, 3) := by decide +kernel
theorem dX3_copyFrom_124 : decode cX3_copyFrom 124 = .ok (.aload_n 0, 1) := by decide +kernel
theorem dX3_copyFrom_125 : decode cX3_copyFrom 125 = .ok (.aload_n 1, 1) := by decide +kernel
theorem dX3_copyFrom_126 : decode cX3_copyFrom 126 = .ok (.getfield 64, 3) := by decide +kernel
theorem dX3_copyFrom_129 : decode cX3_copyFrom 129 = .ok (.putfield 64, 3) := by decide +kernel
theorem dX3_copyFrom_132 : decode cX3_copyFrom 132 = .ok (.return_, 1) := by decide +kernel
theorem dX3_sittersOf_0 : decode cX3_sittersOf 0 = .ok (.iconst 0, 1) := by decide +kernel
theorem dX3_sittersOf_1 : decode cX3_sittersOf 1 = .ok (.istore_n 2, 1) := by decide +kernel
theorem dX3_sittersOf_2 : decode cX3_sittersOf 2 = .ok (.iconst 0, 1) := by decide +kernel
theorem dX3_sittersOf_3 : decode cX3_sittersOf 3 = .ok (.istore_n 3, 1) := by decide +kernel
theorem dX3_sittersOf_4 : decode cX3_sittersOf 4 = .ok (.iload_n 3, 1) := by decide +kernel
theorem dX3_sittersOf_5 : decode cX3_sittersOf 5 = .ok (.aload_n 0, 1) := by decide +kernel
theorem dX3_sittersOf_6 : decode cX3_sittersOf 6 = .ok (.getfield 32, 3) := by decide +kernel
theorem dX3_sittersOf_9 : decode cX3_sittersOf 9 = .ok (.if_icmp .ge 25, 3) := by decide +kernel
theorem dX3_sittersOf_12 : decode cX3_sittersOf 12 = .ok (.aload_n 0, 1) := by decide +kernel
theorem dX3_sittersOf_13 : decode cX3_sittersOf 13 = .ok (.getfield 11, 3) := by decide +kernel
theorem dX3_sittersOf_16 : decode cX3_sittersOf 16 = .ok (.iload_n 3, 1) := by decide +kernel
theorem dX3_sittersOf_17 : decode cX3_sittersOf 17 = .ok (.aaload, 1) := by decide +kernel
theorem dX3_sittersOf_18 : decode cX3_sittersOf 18 = .ok (.getfield 68, 3) := by decide +kernel
theorem dX3_sittersOf_21 : decode cX3_sittersOf 21 = .ok (.iload_n 1, 1) := by decide +kernel
theorem dX3_sittersOf_22 : decode cX3_sittersOf 22 = .ok (.if_icmp .ne 6, 3) := by decide +kernel
theorem dX3_sittersOf_25 : decode cX3_sittersOf 25 = .ok (.iinc 2 1, 3) := by decide +kernel
theorem dX3_sittersOf_28 : decode cX3_sittersOf 28 = .ok (.iinc 3 1, 3) := by decide +kernel
theorem dX3_sittersOf_31 : decode cX3_sittersOf 31 = .ok (.goto (-27), 3) := by decide +kernel
theorem dX3_sittersOf_34 : decode cX3_sittersOf 34 = .ok (.iload_n 2, 1) := by decide +kernel
theorem dX3_sittersOf_35 : decode cX3_sittersOf 35 = .ok (.ireturn, 1) := by decide +kernel
theorem dX3_lowestFreeSeat_0 : decode cX3_lowestFreeSeat 0 = .ok (.iconst 0, 1) := by decide +kernel
theorem dX3_lowestFreeSeat_1 : decode cX3_lowestFreeSeat 1 = .ok (.istore_n 2, 1) := by decide +kernel
theorem dX3_lowestFreeSeat_2 : decode cX3_lowestFreeSeat 2 = .ok (.iload_n 2, 1) := by decide +kernel
theorem dX3_lowestFreeSeat_3 : decode cX3_lowestFreeSeat 3 = .ok (.iconst 2, 1) := by decide +kernel
theorem dX3_lowestFreeSeat_4 : decode cX3_lowestFreeSeat 4 = .ok (.if_icmp .ge 20, 3) := by decide +kernel
theorem dX3_lowestFreeSeat_7 : decode cX3_lowestFreeSeat 7 = .ok (.aload_n 0, 1) := by decide +kernel
theorem dX3_lowestFreeSeat_8 : decode cX3_lowestFreeSeat 8 = .ok (.iload_n 1, 1) := by decide +kernel
theorem dX3_lowestFreeSeat_9 : decode cX3_lowestFreeSeat 9 = .ok (.iload_n 2, 1) := by decide +kernel
theorem dX3_lowestFreeSeat_10 : decode cX3_lowestFreeSeat 10 = .ok (.invokevirtual 71, 3) := by decide +kernel
theorem dX3_lowestFreeSeat_13 : decode cX3_lowestFreeSeat 13 = .ok (.ifCond .ne 5, 3) := by decide +kernel
theorem dX3_lowestFreeSeat_16 : decode cX3_lowestFreeSeat 16 = .ok (.iload_n 2, 1) := by decide +kernel
theorem dX3_lowestFreeSeat_17 : decode cX3_lowestFreeSeat 17 = .ok (.ireturn, 1) := by decide +kernel
theorem dX3_lowestFreeSeat_18 : decode cX3_lowestFreeSeat 18 = .ok (.iinc 2 1, 3) := by decide +kernel
theorem dX3_lowestFreeSeat_21 : decode cX3_lowestFreeSeat 21 = .ok (.goto (-19), 3) := by decide +kernel
theorem dX3_lowestFreeSeat_24 : decode cX3_lowestFreeSeat 24 = .ok (.iconst (-1), 1) := by decide +kernel
theorem dX3_lowestFreeSeat_25 : decode cX3_lowestFreeSeat 25 = .ok (.ireturn, 1) := by decide +kernel
theorem dX3_isTaken_0 : decode cX3_isTaken 0 = .ok (.iconst 0, 1) := by decide +kernel
theorem dX3_isTaken_1 : decode cX3_isTaken 1 = .ok (.istore_n 3, 1) := by decide +kernel
theorem dX3_isTaken_2 : decode cX3_isTaken 2 = .ok (.iload_n 3, 1) := by decide +kernel
theorem dX3_isTaken_3 : decode cX3_isTaken 3 = .ok (.aload_n 0, 1) := by decide +kernel
theorem dX3_isTaken_4 : decode cX3_isTaken 4 = .ok (.getfield 32, 3) := by decide +kernel
theorem dX3_isTaken_7 : decode cX3_isTaken 7 = .ok (.if_icmp .ge 37, 3) := by decide +kernel
theorem dX3_isTaken_10 : decode cX3_isTaken 10 = .ok (.aload_n 0, 1) := by decide +kernel
theorem dX3_isTaken_11 : decode cX3_isTaken 11 = .ok (.getfield 11, 3) := by decide +kernel
theorem dX3_isTaken_14 : decode cX3_isTaken 14 = .ok (.iload_n 3, 1) := by decide +kernel
theorem dX3_isTaken_15 : decode cX3_isTaken 15 = .ok (.aaload, 1) := by decide +kernel
theorem dX3_isTaken_16 : decode cX3_isTaken 16 = .ok (.getfield 68, 3) := by decide +kernel
theorem dX3_isTaken_19 : decode cX3_isTaken 19 = .ok (.iload_n 1, 1) := by decide +kernel
theorem dX3_isTaken_20 : decode cX3_isTaken 20 = .ok (.if_icmp .ne 18, 3) := by decide +kernel
theorem dX3_isTaken_23 : decode cX3_isTaken 23 = .ok (.aload_n 0, 1) := by decide +kernel
theorem dX3_isTaken_24 : decode cX3_isTaken 24 = .ok (.getfield 11, 3) := by decide +kernel
theorem dX3_isTaken_27 : decode cX3_isTaken 27 = .ok (.iload_n 3, 1) := by decide +kernel
theorem dX3_isTaken_28 : decode cX3_isTaken 28 = .ok (.aaload, 1) := by decide +kernel
theorem dX3_isTaken_29 : decode cX3_isTaken 29 = .ok (.getfield 75, 3) := by decide +kernel
theorem dX3_isTaken_32 : decode cX3_isTaken 32 = .ok (.iload_n 2, 1) := by decide +kernel
theorem dX3_isTaken_33 : decode cX3_isTaken 33 = .ok (.if_icmp .ne 5, 3) := by decide +kernel
theorem dX3_isTaken_36 : decode cX3_isTaken 36 = .ok (.iconst 1, 1) := by decide +kernel
theorem dX3_isTaken_37 : decode cX3_isTaken 37 = .ok (.ireturn, 1) := by decide +kernel
theorem dX3_isTaken_38 : decode cX3_isTaken 38 = .ok (.iinc 3 1, 3) := by decide +kernel
theorem dX3_isTaken_41 : decode cX3_isTaken 41 = .ok (.goto (-39), 3) := by decide +kernel
theorem dX3_isTaken_44 : decode cX3_isTaken 44 = .ok (.iconst 0, 1) := by decide +kernel
theorem dX3_isTaken_45 : decode cX3_isTaken 45 = .ok (.ireturn, 1) := by decide +kernel
theorem dX3_seatedOracles_0 : decode cX3_seatedOracles 0 = .ok (.iconst 0, 1) := by decide +kernel
theorem dX3_seatedOracles_1 : decode cX3_seatedOracles 1 = .ok (.istore_n 1, 1) := by decide +kernel
theorem dX3_seatedOracles_2 : decode cX3_seatedOracles 2 = .ok (.iconst 0, 1) := by decide +kernel
theorem dX3_seatedOracles_3 : decode cX3_seatedOracles 3 = .ok (.istore_n 2, 1) := by decide +kernel
theorem dX3_seatedOracles_4 : decode cX3_seatedOracles 4 = .ok (.iload_n 2, 1) := by decide +kernel
theorem dX3_seatedOracles_5 : decode cX3_seatedOracles 5 = .ok (.aload_n 0, 1) := by decide +kernel
theorem dX3_seatedOracles_6 : decode cX3_seatedOracles 6 = .ok (.getfield 32, 3) := by decide +kernel
theorem dX3_seatedOracles_9 : decode cX3_seatedOracles 9 = .ok (.if_icmp .ge 24, 3) := by decide +kernel
theorem dX3_seatedOracles_12 : decode cX3_seatedOracles 12 = .ok (.aload_n 0, 1) := by decide +kernel
theorem dX3_seatedOracles_13 : decode cX3_seatedOracles 13 = .ok (.getfield 11, 3) := by decide +kernel
theorem dX3_seatedOracles_16 : decode cX3_seatedOracles 16 = .ok (.iload_n 2, 1) := by decide +kernel
theorem dX3_seatedOracles_17 : decode cX3_seatedOracles 17 = .ok (.aaload, 1) := by decide +kernel
theorem dX3_seatedOracles_18 : decode cX3_seatedOracles 18 = .ok (.invokevirtual 78, 3) := by decide +kernel
theorem dX3_seatedOracles_21 : decode cX3_seatedOracles 21 = .ok (.ifCond .eq 6, 3) := by decide +kernel
theorem dX3_seatedOracles_24 : decode cX3_seatedOracles 24 = .ok (.iinc 1 1, 3) := by decide +kernel
theorem dX3_seatedOracles_27 : decode cX3_seatedOracles 27 = .ok (.iinc 2 1, 3) := by decide +kernel
theorem dX3_seatedOracles_30 : decode cX3_seatedOracles 30 = .ok (.goto (-26), 3) := by decide +kernel
theorem dX3_seatedOracles_33 : decode cX3_seatedOracles 33 = .ok (.iload_n 1, 1) := by decide +kernel
theorem dX3_seatedOracles_34 : decode cX3_seatedOracles 34 = .ok (.ireturn, 1) := by decide +kernel
theorem dX3_ruinedOracles_0 : decode cX3_ruinedOracles 0 = .ok (.iconst 0, 1) := by decide +kernel
theorem dX3_ruinedOracles_1 : decode cX3_ruinedOracles 1 = .ok (.istore_n 1, 1) := by decide +kernel
theorem dX3_ruinedOracles_2 : decode cX3_ruinedOracles 2 = .ok (.iconst 0, 1) := by decide +kernel
theorem dX3_ruinedOracles_3 : decode cX3_ruinedOracles 3 = .ok (.istore_n 2, 1) := by decide +kernel
theorem dX3_ruinedOracles_4 : decode cX3_ruinedOracles 4 = .ok (.iload_n 2, 1) := by decide +kernel
theorem dX3_ruinedOracles_5 : decode cX3_ruinedOracles 5 = .ok (.aload_n 0, 1) := by decide +kernel
theorem dX3_ruinedOracles_6 : decode cX3_ruinedOracles 6 = .ok (.getfield 32, 3) := by decide +kernel
theorem dX3_ruinedOracles_9 : decode cX3_ruinedOracles 9 = .ok (.if_icmp .ge 24, 3) := by decide +kernel
theorem dX3_ruinedOracles_12 : decode cX3_ruinedOracles 12 = .ok (.aload_n 0, 1) := by decide +kernel
theorem dX3_ruinedOracles_13 : decode cX3_ruinedOracles 13 = .ok (.getfield 11, 3) := by decide +kernel
theorem dX3_ruinedOracles_16 : decode cX3_ruinedOracles 16 = .ok (.iload_n 2, 1) := by decide +kernel
theorem dX3_ruinedOracles_17 : decode cX3_ruinedOracles 17 = .ok (.aaload, 1) := by decide +kernel
theorem dX3_ruinedOracles_18 : decode cX3_ruinedOracles 18 = .ok (.invokevirtual 82, 3) := by decide +kernel
theorem dX3_ruinedOracles_21 : decode cX3_ruinedOracles 21 = .ok (.ifCond .eq 6, 3) := by decide +kernel
theorem dX3_ruinedOracles_24 : decode cX3_ruinedOracles 24 = .ok (.iinc 1 1, 3) := by decide +kernel
theorem dX3_ruinedOracles_27 : decode cX3_ruinedOracles 27 = .ok (.iinc 2 1, 3) := by decide +kernel
theorem dX3_ruinedOracles_30 : decode cX3_ruinedOracles 30 = .ok (.goto (-26), 3) := by decide +kernel
theorem dX3_ruinedOracles_33 : decode cX3_ruinedOracles 33 = .ok (.iload_n 1, 1) := by decide +kernel
theorem dX3_ruinedOracles_34 : decode cX3_ruinedOracles 34 = .ok (.ireturn, 1) := by decide +kernel
theorem dX3_allCoins_0 : decode cX3_allCoins 0 = .ok (.aload_n 0, 1) := by decide +kernel
theorem dX3_allCoins_1 : decode cX3_allCoins 1 = .ok (.getfield 52, 3) := by decide +kernel
theorem dX3_allCoins_4 : decode cX3_allCoins 4 = .ok (.istore_n 1, 1) := by decide +kernel
theorem dX3_allCoins_5 : decode cX3_allCoins 5 = .ok (.iconst 0, 1) := by decide +kernel
theorem dX3_allCoins_6 : decode cX3_allCoins 6 = .ok (.istore_n 2, 1) := by decide +kernel
theorem dX3_allCoins_7 : decode cX3_allCoins 7 = .ok (.iload_n 2, 1) := by decide +kernel
theorem dX3_allCoins_8 : decode cX3_allCoins 8 = .ok (.aload_n 0, 1) := by decide +kernel
theorem dX3_allCoins_9 : decode cX3_allCoins 9 = .ok (.getfield 32, 3) := by decide +kernel
theorem dX3_allCoins_12 : decode cX3_allCoins 12 = .ok (.if_icmp .ge 21, 3) := by decide +kernel
theorem dX3_allCoins_15 : decode cX3_allCoins 15 = .ok (.iload_n 1, 1) := by decide +kernel
theorem dX3_allCoins_16 : decode cX3_allCoins 16 = .ok (.aload_n 0, 1) := by decide +kernel
theorem dX3_allCoins_17 : decode cX3_allCoins 17 = .ok (.getfield 11, 3) := by decide +kernel
theorem dX3_allCoins_20 : decode cX3_allCoins 20 = .ok (.iload_n 2, 1) := by decide +kernel
theorem dX3_allCoins_21 : decode cX3_allCoins 21 = .ok (.aaload, 1) := by decide +kernel
theorem dX3_allCoins_22 : decode cX3_allCoins 22 = .ok (.getfield 85, 3) := by decide +kernel
theorem dX3_allCoins_25 : decode cX3_allCoins 25 = .ok (.iadd, 1) := by decide +kernel
theorem dX3_allCoins_26 : decode cX3_allCoins 26 = .ok (.istore_n 1, 1) := by decide +kernel
theorem dX3_allCoins_27 : decode cX3_allCoins 27 = .ok (.iinc 2 1, 3) := by decide +kernel
theorem dX3_allCoins_30 : decode cX3_allCoins 30 = .ok (.goto (-23), 3) := by decide +kernel
theorem dX3_allCoins_33 : decode cX3_allCoins 33 = .ok (.iload_n 1, 1) := by decide +kernel
theorem dX3_allCoins_34 : decode cX3_allCoins 34 = .ok (.ireturn, 1) := by decide +kernel
theorem dX3_richerThan_0 : decode cX3_richerThan 0 = .ok (.aload_n 0, 1) := by decide +kernel
theorem dX3_richerThan_1 : decode cX3_richerThan 1 = .ok (.getfield 11, 3) := by decide +kernel
theorem dX3_richerThan_4 : decode cX3_richerThan 4 = .ok (.iload_n 1, 1) := by decide +kernel
theorem dX3_richerThan_5 : decode cX3_richerThan 5 = .ok (.aaload, 1) := by decide +kernel
theorem dX3_richerThan_6 : decode cX3_richerThan 6 = .ok (.getfield 85, 3) := by decide +kernel
theorem dX3_richerThan_9 : decode cX3_richerThan 9 = .ok (.istore_n 2, 1) := by decide +kernel
theorem dX3_richerThan_10 : decode cX3_richerThan 10 = .ok (.iconst 0, 1) := by decide +kernel
theorem dX3_richerThan_11 : decode cX3_richerThan 11 = .ok (.istore_n 3, 1) := by decide +kernel
theorem dX3_richerThan_12 : decode cX3_richerThan 12 = .ok (.iconst 0, 1) := by decide +kernel
theorem dX3_richerThan_13 : decode cX3_richerThan 13 = .ok (.istore 4, 2) := by decide +kernel
theorem dX3_richerThan_15 : decode cX3_richerThan 15 = .ok (.iload 4, 2) := by decide +kernel
theorem dX3_richerThan_17 : decode cX3_richerThan 17 = .ok (.aload_n 0, 1) := by decide +kernel
theorem dX3_richerThan_18 : decode cX3_richerThan 18 = .ok (.getfield 32, 3) := by decide +kernel
theorem dX3_richerThan_21 : decode cX3_richerThan 21 = .ok (.if_icmp .ge 46, 3) := by decide +kernel
theorem dX3_richerThan_24 : decode cX3_richerThan 24 = .ok (.aload_n 0, 1) := by decide +kernel
theorem dX3_richerThan_25 : decode cX3_richerThan 25 = .ok (.getfield 11, 3) := by decide +kernel
theorem dX3_richerThan_28 : decode cX3_richerThan 28 = .ok (.iload 4, 2) := by decide +kernel
theorem dX3_richerThan_30 : decode cX3_richerThan 30 = .ok (.aaload, 1) := by decide +kernel
theorem dX3_richerThan_31 : decode cX3_richerThan 31 = .ok (.getfield 85, 3) := by decide +kernel
theorem dX3_richerThan_34 : decode cX3_richerThan 34 = .ok (.iload_n 2, 1) := by decide +kernel
theorem dX3_richerThan_35 : decode cX3_richerThan 35 = .ok (.if_icmp .gt 23, 3) := by decide +kernel
theorem dX3_richerThan_38 : decode cX3_richerThan 38 = .ok (.aload_n 0, 1) := by decide +kernel
theorem dX3_richerThan_39 : decode cX3_richerThan 39 = .ok (.getfield 11, 3) := by decide +kernel
theorem dX3_richerThan_42 : decode cX3_richerThan 42 = .ok (.iload 4, 2) := by decide +kernel
theorem dX3_richerThan_44 : decode cX3_richerThan 44 = .ok (.aaload, 1) := by decide +kernel
theorem dX3_richerThan_45 : decode cX3_richerThan 45 = .ok (.getfield 85, 3) := by decide +kernel
theorem dX3_richerThan_48 : decode cX3_richerThan 48 = .ok (.iload_n 2, 1) := by decide +kernel
theorem dX3_richerThan_49 : decode cX3_richerThan 49 = .ok (.if_icmp .ne 12, 3) := by decide +kernel
theorem dX3_richerThan_52 : decode cX3_richerThan 52 = .ok (.iload 4, 2) := by decide +kernel
theorem dX3_richerThan_54 : decode cX3_richerThan 54 = .ok (.iload_n 1, 1) := by decide +kernel
theorem dX3_richerThan_55 : decode cX3_richerThan 55 = .ok (.if_icmp .ge 6, 3) := by decide +kernel
theorem dX3_richerThan_58 : decode cX3_richerThan 58 = .ok (.iinc 3 1, 3) := by decide +kernel
theorem dX3_richerThan_61 : decode cX3_richerThan 61 = .ok (.iinc 4 1, 3) := by decide +kernel
theorem dX3_richerThan_64 : decode cX3_richerThan 64 = .ok (.goto (-49), 3) := by decide +kernel
theorem dX3_richerThan_67 : decode cX3_richerThan 67 = .ok (.iload_n 3, 1) := by decide +kernel
theorem dX3_richerThan_68 : decode cX3_richerThan 68 = .ok (.ireturn, 1) := by decide +kernel
theorem dX3_addLoan_0 : decode cX3_addLoan 0 = .ok (.aload_n 0, 1) := by decide +kernel
theorem dX3_addLoan_1 : decode cX3_addLoan 1 = .ok (.getfield 11, 3) := by decide +kernel
theorem dX3_addLoan_4 : decode cX3_addLoan 4 = .ok (.iload_n 1, 1) := by decide +kernel
theorem dX3_addLoan_5 : decode cX3_addLoan 5 = .ok (.aaload, 1) := by decide +kernel
theorem dX3_addLoan_6 : decode cX3_addLoan 6 = .ok (.dup, 1) := by decide +kernel
theorem dX3_addLoan_7 : decode cX3_addLoan 7 = .ok (.getfield 85, 3) := by decide +kernel
theorem dX3_addLoan_10 : decode cX3_addLoan 10 = .ok (.iload_n 3, 1) := by decide +kernel
theorem dX3_addLoan_11 : decode cX3_addLoan 11 = .ok (.isub, 1) := by decide +kernel
theorem dX3_addLoan_12 : decode cX3_addLoan 12 = .ok (.putfield 85, 3) := by decide +kernel
theorem dX3_addLoan_15 : decode cX3_addLoan 15 = .ok (.aload_n 0, 1) := by decide +kernel
theorem dX3_addLoan_16 : decode cX3_addLoan 16 = .ok (.getfield 11, 3) := by decide +kernel
theorem dX3_addLoan_19 : decode cX3_addLoan 19 = .ok (.iload_n 2, 1) := by decide +kernel
theorem dX3_addLoan_20 : decode cX3_addLoan 20 = .ok (.aaload, 1) := by decide +kernel
theorem dX3_addLoan_21 : decode cX3_addLoan 21 = .ok (.dup, 1) := by decide +kernel
theorem dX3_addLoan_22 : decode cX3_addLoan 22 = .ok (.getfield 85, 3) := by decide +kernel
theorem dX3_addLoan_25 : decode cX3_addLoan 25 = .ok (.iload_n 3, 1) := by decide +kernel
theorem dX3_addLoan_26 : decode cX3_addLoan 26 = .ok (.iadd, 1) := by decide +kernel
theorem dX3_addLoan_27 : decode cX3_addLoan 27 = .ok (.putfield 85, 3) := by decide +kernel
theorem dX3_addLoan_30 : decode cX3_addLoan 30 = .ok (.aload_n 0, 1) := by decide +kernel
theorem dX3_addLoan_31 : decode cX3_addLoan 31 = .ok (.getfield 40, 3) := by decide +kernel
theorem dX3_addLoan_34 : decode cX3_addLoan 34 = .ok (.istore 4, 2) := by decide +kernel
theorem dX3_addLoan_36 : decode cX3_addLoan 36 = .ok (.aload_n 0, 1) := by decide +kernel
theorem dX3_addLoan_37 : decode cX3_addLoan 37 = .ok (.getfield 20, 3) := by decide +kernel
theorem dX3_addLoan_40 : decode cX3_addLoan 40 = .ok (.iload 4, 2) := by decide +kernel
theorem dX3_addLoan_42 : decode cX3_addLoan 42 = .ok (.aaload, 1) := by decide +kernel
theorem dX3_addLoan_43 : decode cX3_addLoan 43 = .ok (.iload_n 1, 1) := by decide +kernel
theorem dX3_addLoan_44 : decode cX3_addLoan 44 = .ok (.putfield 88, 3) := by decide +kernel
theorem dX3_addLoan_47 : decode cX3_addLoan 47 = .ok (.aload_n 0, 1) := by decide +kernel
theorem dX3_addLoan_48 : decode cX3_addLoan 48 = .ok (.getfield 20, 3) := by decide +kernel
theorem dX3_addLoan_51 : decode cX3_addLoan 51 = .ok (.iload 4, 2) := by decide +kernel
theorem dX3_addLoan_53 : decode cX3_addLoan 53 = .ok (.aaload, 1) := by decide +kernel
theorem dX3_addLoan_54 : decode cX3_addLoan 54 = .ok (.iload_n 2, 1) := by decide +kernel
theorem dX3_addLoan_55 : decode cX3_addLoan 55 = .ok (.putfield 91, 3) := by decide +kernel
theorem dX3_addLoan_58 : decode cX3_addLoan 58 = .ok (.aload_n 0, 1) := by decide +kernel
theorem dX3_addLoan_59 : decode cX3_addLoan 59 = .ok (.getfield 20, 3) := by decide +kernel
theorem dX3_addLoan_62 : decode cX3_addLoan 62 = .ok (.iload 4, 2) := by decide +kernel
theorem dX3_addLoan_64 : decode cX3_addLoan 64 = .ok (.aaload, 1) := by decide +kernel
theorem dX3_addLoan_65 : decode cX3_addLoan 65 = .ok (.iload_n 3, 1) := by decide +kernel
theorem dX3_addLoan_66 : decode cX3_addLoan 66 = .ok (.putfield 94, 3) := by decide +kernel
theorem dX3_addLoan_69 : decode cX3_addLoan 69 = .ok (.aload_n 0, 1) := by decide +kernel
theorem dX3_addLoan_70 : decode cX3_addLoan 70 = .ok (.iload 4, 2) := by decide +kernel
theorem dX3_addLoan_72 : decode cX3_addLoan 72 = .ok (.iconst 1, 1) := by decide +kernel
theorem dX3_addLoan_73 : decode cX3_addLoan 73 = .ok (.iadd, 1) := by decide +kernel
theorem dX3_addLoan_74 : decode cX3_addLoan 74 = .ok (.putfield 40, 3) := by decide +kernel
theorem dX3_addLoan_77 : decode cX3_addLoan 77 = .ok (.iload 4, 2) := by decide +kernel
theorem dX3_addLoan_79 : decode cX3_addLoan 79 = .ok (.ireturn, 1) := by decide +kernel
theorem dX3_debtsOf_0 : decode cX3_debtsOf 0 = .ok (.iconst 0, 1) := by decide +kernel
theorem dX3_debtsOf_1 : decode cX3_debtsOf 1 = .ok (.istore_n 2, 1) := by decide +kernel
theorem dX3_debtsOf_2 : decode cX3_debtsOf 2 = .ok (.iconst 0, 1) := by decide +kernel
theorem dX3_debtsOf_3 : decode cX3_debtsOf 3 = .ok (.istore_n 3, 1) := by decide +kernel
theorem dX3_debtsOf_4 : decode cX3_debtsOf 4 = .ok (.iload_n 3, 1) := by decide +kernel
theorem dX3_debtsOf_5 : decode cX3_debtsOf 5 = .ok (.aload_n 0, 1) := by decide +kernel
theorem dX3_debtsOf_6 : decode cX3_debtsOf 6 = .ok (.getfield 40, 3) := by decide +kernel
theorem dX3_debtsOf_9 : decode cX3_debtsOf 9 = .ok (.if_icmp .ge 34, 3) := by decide +kernel
theorem dX3_debtsOf_12 : decode cX3_debtsOf 12 = .ok (.aload_n 0, 1) := by decide +kernel
theorem dX3_debtsOf_13 : decode cX3_debtsOf 13 = .ok (.getfield 20, 3) := by decide +kernel
theorem dX3_debtsOf_16 : decode cX3_debtsOf 16 = .ok (.iload_n 3, 1) := by decide +kernel
theorem dX3_debtsOf_17 : decode cX3_debtsOf 17 = .ok (.aaload, 1) := by decide +kernel
theorem dX3_debtsOf_18 : decode cX3_debtsOf 18 = .ok (.getfield 91, 3) := by decide +kernel
theorem dX3_debtsOf_21 : decode cX3_debtsOf 21 = .ok (.iload_n 1, 1) := by decide +kernel
theorem dX3_debtsOf_22 : decode cX3_debtsOf 22 = .ok (.if_icmp .ne 15, 3) := by decide +kernel
theorem dX3_debtsOf_25 : decode cX3_debtsOf 25 = .ok (.iload_n 2, 1) := by decide +kernel
theorem dX3_debtsOf_26 : decode cX3_debtsOf 26 = .ok (.aload_n 0, 1) := by decide +kernel
theorem dX3_debtsOf_27 : decode cX3_debtsOf 27 = .ok (.getfield 20, 3) := by decide +kernel
theorem dX3_debtsOf_30 : decode cX3_debtsOf 30 = .ok (.iload_n 3, 1) := by decide +kernel
theorem dX3_debtsOf_31 : decode cX3_debtsOf 31 = .ok (.aaload, 1) := by decide +kernel
theorem dX3_debtsOf_32 : decode cX3_debtsOf 32 = .ok (.getfield 94, 3) := by decide +kernel
theorem dX3_debtsOf_35 : decode cX3_debtsOf 35 = .ok (.iadd, 1) := by decide +kernel
theorem dX3_debtsOf_36 : decode cX3_debtsOf 36 = .ok (.istore_n 2, 1) := by decide +kernel
theorem dX3_debtsOf_37 : decode cX3_debtsOf 37 = .ok (.iinc 3 1, 3) := by decide +kernel
theorem dX3_debtsOf_40 : decode cX3_debtsOf 40 = .ok (.goto (-36), 3) := by decide +kernel
theorem dX3_debtsOf_43 : decode cX3_debtsOf 43 = .ok (.iload_n 2, 1) := by decide +kernel
theorem dX3_debtsOf_44 : decode cX3_debtsOf 44 = .ok (.ireturn, 1) := by decide +kernel
theorem dX3_claimsOf_0 : decode cX3_claimsOf 0 = .ok (.iconst 0, 1) := by decide +kernel
theorem dX3_claimsOf_1 : decode cX3_claimsOf 1 = .ok (.istore_n 2, 1) := by decide +kernel
theorem dX3_claimsOf_2 : decode cX3_claimsOf 2 = .ok (.iconst 0, 1) := by decide +kernel
theorem dX3_claimsOf_3 : decode cX3_claimsOf 3 = .ok (.istore_n 3, 1) := by decide +kernel
theorem dX3_claimsOf_4 : decode cX3_claimsOf 4 = .ok (.iload_n 3, 1) := by decide +kernel
theorem dX3_claimsOf_5 : decode cX3_claimsOf 5 = .ok (.aload_n 0, 1) := by decide +kernel
theorem dX3_claimsOf_6 : decode cX3_claimsOf 6 = .ok (.getfield 40, 3) := by decide +kernel
theorem dX3_claimsOf_9 : decode cX3_claimsOf 9 = .ok (.if_icmp .ge 34, 3) := by decide +kernel
theorem dX3_claimsOf_12 : decode cX3_claimsOf 12 = .ok (.aload_n 0, 1) := by decide +kernel
theorem dX3_claimsOf_13 : decode cX3_claimsOf 13 = .ok (.getfield 20, 3) := by decide +kernel
theorem dX3_claimsOf_16 : decode cX3_claimsOf 16 = .ok (.iload_n 3, 1) := by decide +kernel
theorem dX3_claimsOf_17 : decode cX3_claimsOf 17 = .ok (.aaload, 1) := by decide +kernel
theorem dX3_claimsOf_18 : decode cX3_claimsOf 18 = .ok (.getfield 88, 3) := by decide +kernel
theorem dX3_claimsOf_21 : decode cX3_claimsOf 21 = .ok (.iload_n 1, 1) := by decide +kernel
theorem dX3_claimsOf_22 : decode cX3_claimsOf 22 = .ok (.if_icmp .ne 15, 3) := by decide +kernel
theorem dX3_claimsOf_25 : decode cX3_claimsOf 25 = .ok (.iload_n 2, 1) := by decide +kernel
theorem dX3_claimsOf_26 : decode cX3_claimsOf 26 = .ok (.aload_n 0, 1) := by decide +kernel
theorem dX3_claimsOf_27 : decode cX3_claimsOf 27 = .ok (.getfield 20, 3) := by decide +kernel
theorem dX3_claimsOf_30 : decode cX3_claimsOf 30 = .ok (.iload_n 3, 1) := by decide +kernel
theorem dX3_claimsOf_31 : decode cX3_claimsOf 31 = .ok (.aaload, 1) := by decide +kernel
theorem dX3_claimsOf_32 : decode cX3_claimsOf 32 = .ok (.getfield 94, 3) := by decide +kernel
theorem dX3_claimsOf_35 : decode cX3_claimsOf 35 = .ok (.iadd, 1) := by decide +kernel
theorem dX3_claimsOf_36 : decode cX3_claimsOf 36 = .ok (.istore_n 2, 1) := by decide +kernel
theorem dX3_claimsOf_37 : decode cX3_claimsOf 37 = .ok (.iinc 3 1, 3) := by decide +kernel
theorem dX3_claimsOf_40 : decode cX3_claimsOf 40 = .ok (.goto (-36), 3) := by decide +kernel
theorem dX3_claimsOf_43 : decode cX3_claimsOf 43 = .ok (.iload_n 2, 1) := by decide +kernel
theorem dX3_claimsOf_44 : decode cX3_claimsOf 44 = .ok (.ireturn, 1) := by decide +kernel
theorem dX3_foretell_0 : decode cX3_foretell 0 = .ok (.iconst 0, 1) := by decide +kernel
theorem dX3_foretell_1 : decode cX3_foretell 1 = .ok (.istore_n 2, 1) := by decide +kernel
theorem dX3_foretell_2 : decode cX3_foretell 2 = .ok (.iconst 0, 1) := by decide +kernel
theorem dX3_foretell_3 : decode cX3_foretell 3 = .ok (.istore_n 3, 1) := by decide +kernel
theorem dX3_foretell_4 : decode cX3_foretell 4 = .ok (.iconst 0, 1) := by decide +kernel
theorem dX3_foretell_5 : decode cX3_foretell 5 = .ok (.istore 4, 2) := by decide +kernel
theorem dX3_foretell_7 : decode cX3_foretell 7 = .ok (.iload 4, 2) := by decide +kernel
theorem dX3_foretell_9 : decode cX3_foretell 9 = .ok (.aload_n 0, 1) := by decide +kernel
theorem dX3_foretell_10 : decode cX3_foretell 10 = .ok (.getfield 32, 3) := by decide +kernel
theorem dX3_foretell_13 : decode cX3_foretell 13 = .ok (.if_icmp .ge 110, 3) := by decide +kernel
theorem dX3_foretell_16 : decode cX3_foretell 16 = .ok (.aload_n 0, 1) := by decide +kernel
theorem dX3_foretell_17 : decode cX3_foretell 17 = .ok (.getfield 11, 3) := by decide +kernel
theorem dX3_foretell_20 : decode cX3_foretell 20 = .ok (.iload 4, 2) := by decide +kernel
theorem dX3_foretell_22 : decode cX3_foretell 22 = .ok (.aaload, 1) := by decide +kernel
theorem dX3_foretell_23 : decode cX3_foretell 23 = .ok (.astore 5, 2) := by decide +kernel
theorem dX3_foretell_25 : decode cX3_foretell 25 = .ok (.aload 5, 2) := by decide +kernel
theorem dX3_foretell_27 : decode cX3_foretell 27 = .ok (.aload 5, 2) := by decide +kernel
theorem dX3_foretell_29 : decode cX3_foretell 29 = .ok (.aload_n 0, 1) := by decide +kernel
theorem dX3_foretell_30 : decode cX3_foretell 30 = .ok (.getfield 25, 3) := by decide +kernel
theorem dX3_foretell_33 : decode cX3_foretell 33 = .ok (.iconst 0, 1) := by decide +kernel
theorem dX3_foretell_34 : decode cX3_foretell 34 = .ok (.iaload, 1) := by decide +kernel
theorem dX3_foretell_35 : decode cX3_foretell 35 = .ok (.iload_n 1, 1) := by decide +kernel
theorem dX3_foretell_36 : decode cX3_foretell 36 = .ok (.aload_n 0, 1) := by decide +kernel
theorem dX3_foretell_37 : decode cX3_foretell 37 = .ok (.getfield 55, 3) := by decide +kernel
theorem dX3_foretell_40 : decode cX3_foretell 40 = .ok (.invokevirtual 97, 3) := by decide +kernel
theorem dX3_foretell_43 : decode cX3_foretell 43 = .ok (.putfield 101, 3) := by decide +kernel
theorem dX3_foretell_46 : decode cX3_foretell 46 = .ok (.aload 5, 2) := by decide +kernel
theorem dX3_foretell_48 : decode cX3_foretell 48 = .ok (.getfield 104, 3) := by decide +kernel
theorem dX3_foretell_51 : decode cX3_foretell 51 = .ok (.iconst 4, 1) := by decide +kernel
theorem dX3_foretell_52 : decode cX3_foretell 52 = .ok (.if_icmp .ne 6, 3) := by decide +kernel
theorem dX3_foretell_55 : decode cX3_foretell 55 = .ok (.goto 62, 3) := by decide +kernel
theorem dX3_foretell_58 : decode cX3_foretell 58 = .ok (.aload 5, 2) := by decide +kernel
theorem dX3_foretell_60 : decode cX3_foretell 60 = .ok (.aload 5, 2) := by decide +kernel
theorem dX3_foretell_62 : decode cX3_foretell 62 = .ok (.iload_n 1, 1) := by decide +kernel
theorem dX3_foretell_63 : decode cX3_foretell 63 = .ok (.aload_n 0, 1) := by decide +kernel
theorem dX3_foretell_64 : decode cX3_foretell 64 = .ok (.getfield 55, 3) := by decide +kernel
theorem dX3_foretell_67 : decode cX3_foretell 67 = .ok (.invokevirtual 107, 3) := by decide +kernel
theorem dX3_foretell_70 : decode cX3_foretell 70 = .ok (.putfield 111, 3) := by decide +kernel
theorem dX3_foretell_73 : decode cX3_foretell 73 = .ok (.aload 5, 2) := by decide +kernel
theorem dX3_foretell_75 : decode cX3_foretell 75 = .ok (.invokevirtual 114, 3) := by decide +kernel
theorem dX3_foretell_78 : decode cX3_foretell 78 = .ok (.ifCond .eq 23, 3) := by decide +kernel
theorem dX3_foretell_81 : decode cX3_foretell 81 = .ok (.aload 5, 2) := by decide +kernel
theorem dX3_foretell_83 : decode cX3_foretell 83 = .ok (.getfield 111, 3) := by decide +kernel
theorem dX3_foretell_86 : decode cX3_foretell 86 = .ok (.iconst 1, 1) := by decide +kernel
theorem dX3_foretell_87 : decode cX3_foretell 87 = .ok (.if_icmp .ne 14, 3) := by decide +kernel
theorem dX3_foretell_90 : decode cX3_foretell 90 = .ok (.iload_n 2, 1) := by decide +kernel
theorem dX3_foretell_91 : decode cX3_foretell 91 = .ok (.aload 5, 2) := by decide +kernel
theorem dX3_foretell_93 : decode cX3_foretell 93 = .ok (.getfield 85, 3) := by decide +kernel
theorem dX3_foretell_96 : decode cX3_foretell 96 = .ok (.iadd, 1) := by decide +kernel
theorem dX3_foretell_97 : decode cX3_foretell 97 = .ok (.istore_n 2, 1) := by decide +kernel
theorem dX3_foretell_98 : decode cX3_foretell 98 = .ok (.goto 19, 3) := by decide +kernel
theorem dX3_foretell_101 : decode cX3_foretell 101 = .ok (.aload 5, 2) := by decide +kernel
theorem dX3_foretell_103 : decode cX3_foretell 103 = .ok (.invokevirtual 114, 3) := by decide +kernel
theorem dX3_foretell_106 : decode cX3_foretell 106 = .ok (.ifCond .eq 11, 3) := by decide +kernel
theorem dX3_foretell_109 : decode cX3_foretell 109 = .ok (.iload_n 3, 1) := by decide +kernel
theorem dX3_foretell_110 : decode cX3_foretell 110 = .ok (.aload 5, 2) := by decide +kernel
theorem dX3_foretell_112 : decode cX3_foretell 112 = .ok (.getfield 85, 3) := by decide +kernel
theorem dX3_foretell_115 : decode cX3_foretell 115 = .ok (.iadd, 1) := by decide +kernel
theorem dX3_foretell_116 : decode cX3_foretell 116 = .ok (.istore_n 3, 1) := by decide +kernel
theorem dX3_foretell_117 : decode cX3_foretell 117 = .ok (.iinc 4 1, 3) := by decide +kernel
theorem dX3_foretell_120 : decode cX3_foretell 120 = .ok (.goto (-113), 3) := by decide +kernel
theorem dX3_foretell_123 : decode cX3_foretell 123 = .ok (.iconst 0, 1) := by decide +kernel
theorem dX3_foretell_124 : decode cX3_foretell 124 = .ok (.istore 4, 2) := by decide +kernel
theorem dX3_foretell_126 : decode cX3_foretell 126 = .ok (.iload 4, 2) := by decide +kernel
theorem dX3_foretell_128 : decode cX3_foretell 128 = .ok (.aload_n 0, 1) := by decide +kernel
theorem dX3_foretell_129 : decode cX3_foretell 129 = .ok (.getfield 32, 3) := by decide +kernel
theorem dX3_foretell_132 : decode cX3_foretell 132 = .ok (.if_icmp .ge 43, 3) := by decide +kernel
theorem dX3_foretell_135 : decode cX3_foretell 135 = .ok (.aload_n 0, 1) := by decide +kernel
theorem dX3_foretell_136 : decode cX3_foretell 136 = .ok (.getfield 11, 3) := by decide +kernel
theorem dX3_foretell_139 : decode cX3_foretell 139 = .ok (.iload 4, 2) := by decide +kernel
theorem dX3_foretell_141 : decode cX3_foretell 141 = .ok (.aaload, 1) := by decide +kernel
theorem dX3_foretell_142 : decode cX3_foretell 142 = .ok (.getfield 104, 3) := by decide +kernel
theorem dX3_foretell_145 : decode cX3_foretell 145 = .ok (.iconst 4, 1) := by decide +kernel
theorem dX3_foretell_146 : decode cX3_foretell 146 = .ok (.if_icmp .ne 23, 3) := by decide +kernel
theorem dX3_foretell_149 : decode cX3_foretell 149 = .ok (.aload_n 0, 1) := by decide +kernel
theorem dX3_foretell_150 : decode cX3_foretell 150 = .ok (.getfield 11, 3) := by decide +kernel
theorem dX3_foretell_153 : decode cX3_foretell 153 = .ok (.iload 4, 2) := by decide +kernel
theorem dX3_foretell_155 : decode cX3_foretell 155 = .ok (.aaload, 1) := by decide +kernel
theorem dX3_foretell_156 : decode cX3_foretell 156 = .ok (.iload_n 3, 1) := by decide +kernel
theorem dX3_foretell_157 : decode cX3_foretell 157 = .ok (.iload_n 2, 1) := by decide +kernel
theorem dX3_foretell_158 : decode cX3_foretell 158 = .ok (.if_icmp .le 7, 3) := by decide +kernel
theorem dX3_foretell_161 : decode cX3_foretell 161 = .ok (.iconst 1, 1) := by decide +kernel
theorem dX3_foretell_162 : decode cX3_foretell 162 = .ok (.goto 4, 3) := by decide +kernel
theorem dX3_foretell_165 : decode cX3_foretell 165 = .ok (.iconst 0, 1) := by decide +kernel
theorem dX3_foretell_166 : decode cX3_foretell 166 = .ok (.putfield 111, 3) := by decide +kernel
theorem dX3_foretell_169 : decode cX3_foretell 169 = .ok (.iinc 4 1, 3) := by decide +kernel
theorem dX3_foretell_172 : decode cX3_foretell 172 = .ok (.goto (-46), 3) := by decide +kernel
theorem dX3_foretell_175 : decode cX3_foretell 175 = .ok (.return_, 1) := by decide +kernel
theorem dX3_stakesOn_0 : decode cX3_stakesOn 0 = .ok (.iconst 0, 1) := by decide +kernel
theorem dX3_stakesOn_1 : decode cX3_stakesOn 1 = .ok (.istore_n 2, 1) := by decide +kernel
theorem dX3_stakesOn_2 : decode cX3_stakesOn 2 = .ok (.iconst 0, 1) := by decide +kernel
theorem dX3_stakesOn_3 : decode cX3_stakesOn 3 = .ok (.istore_n 3, 1) := by decide +kernel
theorem dX3_stakesOn_4 : decode cX3_stakesOn 4 = .ok (.iload_n 3, 1) := by decide +kernel
theorem dX3_stakesOn_5 : decode cX3_stakesOn 5 = .ok (.aload_n 0, 1) := by decide +kernel
theorem dX3_stakesOn_6 : decode cX3_stakesOn 6 = .ok (.getfield 32, 3) := by decide +kernel
theorem dX3_stakesOn_9 : decode cX3_stakesOn 9 = .ok (.if_icmp .ge 34, 3) := by decide +kernel
theorem dX3_stakesOn_12 : decode cX3_stakesOn 12 = .ok (.aload_n 0, 1) := by decide +kernel
theorem dX3_stakesOn_13 : decode cX3_stakesOn 13 = .ok (.getfield 11, 3) := by decide +kernel
theorem dX3_stakesOn_16 : decode cX3_stakesOn 16 = .ok (.iload_n 3, 1) := by decide +kernel
theorem dX3_stakesOn_17 : decode cX3_stakesOn 17 = .ok (.aaload, 1) := by decide +kernel
theorem dX3_stakesOn_18 : decode cX3_stakesOn 18 = .ok (.getfield 111, 3) := by decide +kernel
theorem dX3_stakesOn_21 : decode cX3_stakesOn 21 = .ok (.iload_n 1, 1) := by decide +kernel
theorem dX3_stakesOn_22 : decode cX3_stakesOn 22 = .ok (.if_icmp .ne 15, 3) := by decide +kernel
theorem dX3_stakesOn_25 : decode cX3_stakesOn 25 = .ok (.iload_n 2, 1) := by decide +kernel
theorem dX3_stakesOn_26 : decode cX3_stakesOn 26 = .ok (.aload_n 0, 1) := by decide +kernel
theorem dX3_stakesOn_27 : decode cX3_stakesOn 27 = .ok (.getfield 11, 3) := by decide +kernel
theorem dX3_stakesOn_30 : decode cX3_stakesOn 30 = .ok (.iload_n 3, 1) := by decide +kernel
theorem dX3_stakesOn_31 : decode cX3_stakesOn 31 = .ok (.aaload, 1) := by decide +kernel
theorem dX3_stakesOn_32 : decode cX3_stakesOn 32 = .ok (.getfield 101, 3) := by decide +kernel
theorem dX3_stakesOn_35 : decode cX3_stakesOn 35 = .ok (.iadd, 1) := by decide +kernel
theorem dX3_stakesOn_36 : decode cX3_stakesOn 36 = .ok (.istore_n 2, 1) := by decide +kernel
theorem dX3_stakesOn_37 : decode cX3_stakesOn 37 = .ok (.iinc 3 1, 3) := by decide +kernel
theorem dX3_stakesOn_40 : decode cX3_stakesOn 40 = .ok (.goto (-36), 3) := by decide +kernel
theorem dX3_stakesOn_43 : decode cX3_stakesOn 43 = .ok (.iload_n 2, 1) := by decide +kernel
theorem dX3_stakesOn_44 : decode cX3_stakesOn 44 = .ok (.ireturn, 1) := by decide +kernel
theorem dX3_runBranch_0 : decode cX3_runBranch 0 = .ok (.aload_n 0, 1) := by decide +kernel
theorem dX3_runBranch_1 : decode cX3_runBranch 1 = .ok (.iload_n 1, 1) := by decide +kernel
theorem dX3_runBranch_2 : decode cX3_runBranch 2 = .ok (.invokevirtual 117, 3) := by decide +kernel
theorem dX3_runBranch_5 : decode cX3_runBranch 5 = .ok (.aload_n 0, 1) := by decide +kernel
theorem dX3_runBranch_6 : decode cX3_runBranch 6 = .ok (.iload_n 2, 1) := by decide +kernel
theorem dX3_runBranch_7 : decode cX3_runBranch 7 = .ok (.invokevirtual 121, 3) := by decide +kernel
theorem dX3_runBranch_10 : decode cX3_runBranch 10 = .ok (.istore_n 3, 1) := by decide +kernel
theorem dX3_runBranch_11 : decode cX3_runBranch 11 = .ok (.aload_n 0, 1) := by decide +kernel
theorem dX3_runBranch_12 : decode cX3_runBranch 12 = .ok (.iload_n 2, 1) := by decide +kernel
theorem dX3_runBranch_13 : decode cX3_runBranch 13 = .ok (.invokevirtual 125, 3) := by decide +kernel
theorem dX3_runBranch_16 : decode cX3_runBranch 16 = .ok (.aload_n 0, 1) := by decide +kernel
theorem dX3_runBranch_17 : decode cX3_runBranch 17 = .ok (.iload_n 1, 1) := by decide +kernel
theorem dX3_runBranch_18 : decode cX3_runBranch 18 = .ok (.iload_n 2, 1) := by decide +kernel
theorem dX3_runBranch_19 : decode cX3_runBranch 19 = .ok (.invokevirtual 128, 3) := by decide +kernel
theorem dX3_runBranch_22 : decode cX3_runBranch 22 = .ok (.iload_n 3, 1) := by decide +kernel
theorem dX3_runBranch_23 : decode cX3_runBranch 23 = .ok (.ireturn, 1) := by decide +kernel
theorem dX3_settleBets_0 : decode cX3_settleBets 0 = .ok (.aload_n 0, 1) := by decide +kernel
theorem dX3_settleBets_1 : decode cX3_settleBets 1 = .ok (.iconst 1, 1) := by decide +kernel
theorem dX3_settleBets_2 : decode cX3_settleBets 2 = .ok (.iload_n 1, 1) := by decide +kernel
theorem dX3_settleBets_3 : decode cX3_settleBets 3 = .ok (.isub, 1) := by decide +kernel
theorem dX3_settleBets_4 : decode cX3_settleBets 4 = .ok (.invokevirtual 132, 3) := by decide +kernel
theorem dX3_settleBets_7 : decode cX3_settleBets 7 = .ok (.istore_n 2, 1) := by decide +kernel
theorem dX3_settleBets_8 : decode cX3_settleBets 8 = .ok (.aload_n 0, 1) := by decide +kernel
theorem dX3_settleBets_9 : decode cX3_settleBets 9 = .ok (.iload_n 1, 1) := by decide +kernel
theorem dX3_settleBets_10 : decode cX3_settleBets 10 = .ok (.invokevirtual 132, 3) := by decide +kernel
theorem dX3_settleBets_13 : decode cX3_settleBets 13 = .ok (.istore_n 3, 1) := by decide +kernel
theorem dX3_settleBets_14 : decode cX3_settleBets 14 = .ok (.iload_n 2, 1) := by decide +kernel
theorem dX3_settleBets_15 : decode cX3_settleBets 15 = .ok (.ifCond .le 7, 3) := by decide +kernel
theorem dX3_settleBets_18 : decode cX3_settleBets 18 = .ok (.iload_n 3, 1) := by decide +kernel
theorem dX3_settleBets_19 : decode cX3_settleBets 19 = .ok (.ifCond .gt 5, 3) := by decide +kernel
theorem dX3_settleBets_22 : decode cX3_settleBets 22 = .ok (.iconst 0, 1) := by decide +kernel
theorem dX3_settleBets_23 : decode cX3_settleBets 23 = .ok (.ireturn, 1) := by decide +kernel
theorem dX3_settleBets_24 : decode cX3_settleBets 24 = .ok (.aload_n 0, 1) := by decide +kernel
theorem dX3_settleBets_25 : decode cX3_settleBets 25 = .ok (.dup, 1) := by decide +kernel
theorem dX3_settleBets_26 : decode cX3_settleBets 26 = .ok (.getfield 61, 3) := by decide +kernel
theorem dX3_settleBets_29 : decode cX3_settleBets 29 = .ok (.iconst 1, 1) := by decide +kernel
theorem dX3_settleBets_30 : decode cX3_settleBets 30 = .ok (.iadd, 1) := by decide +kernel
theorem dX3_settleBets_31 : decode cX3_settleBets 31 = .ok (.putfield 61, 3) := by decide +kernel
theorem dX3_settleBets_34 : decode cX3_settleBets 34 = .ok (.iload_n 2, 1) := by decide +kernel
theorem dX3_settleBets_35 : decode cX3_settleBets 35 = .ok (.iload_n 2, 1) := by decide +kernel
theorem dX3_settleBets_36 : decode cX3_settleBets 36 = .ok (.aload_n 0, 1) := by decide +kernel
theorem dX3_settleBets_37 : decode cX3_settleBets 37 = .ok (.getfield 25, 3) := by decide +kernel
theorem dX3_settleBets_40 : decode cX3_settleBets 40 = .ok (.iconst 1, 1) := by decide +kernel
theorem dX3_settleBets_41 : decode cX3_settleBets 41 = .ok (.iaload, 1) := by decide +kernel
theorem dX3_settleBets_42 : decode cX3_settleBets 42 = .ok (.imul, 1) := by decide +kernel
theorem dX3_settleBets_43 : decode cX3_settleBets 43 = .ok (.bipush 100, 2) := by decide +kernel
theorem dX3_settleBets_45 : decode cX3_settleBets 45 = .ok (.idiv, 1) := by decide +kernel
theorem dX3_settleBets_46 : decode cX3_settleBets 46 = .ok (.isub, 1) := by decide +kernel
theorem dX3_settleBets_47 : decode cX3_settleBets 47 = .ok (.istore 4, 2) := by decide +kernel
theorem dX3_settleBets_49 : decode cX3_settleBets 49 = .ok (.iconst 0, 1) := by decide +kernel
theorem dX3_settleBets_50 : decode cX3_settleBets 50 = .ok (.istore 5, 2) := by decide +kernel
theorem dX3_settleBets_52 : decode cX3_settleBets 52 = .ok (.iconst 0, 1) := by decide +kernel
theorem dX3_settleBets_53 : decode cX3_settleBets 53 = .ok (.istore 6, 2) := by decide +kernel
theorem dX3_settleBets_55 : decode cX3_settleBets 55 = .ok (.iload 6, 2) := by decide +kernel
theorem dX3_settleBets_57 : decode cX3_settleBets 57 = .ok (.aload_n 0, 1) := by decide +kernel
theorem dX3_settleBets_58 : decode cX3_settleBets 58 = .ok (.getfield 32, 3) := by decide +kernel
theorem dX3_settleBets_61 : decode cX3_settleBets 61 = .ok (.if_icmp .ge 84, 3) := by decide +kernel
theorem dX3_settleBets_64 : decode cX3_settleBets 64 = .ok (.aload_n 0, 1) := by decide +kernel
theorem dX3_settleBets_65 : decode cX3_settleBets 65 = .ok (.getfield 11, 3) := by decide +kernel
theorem dX3_settleBets_68 : decode cX3_settleBets 68 = .ok (.iload 6, 2) := by decide +kernel
theorem dX3_settleBets_70 : decode cX3_settleBets 70 = .ok (.aaload, 1) := by decide +kernel
theorem dX3_settleBets_71 : decode cX3_settleBets 71 = .ok (.astore 7, 2) := by decide +kernel
theorem dX3_settleBets_73 : decode cX3_settleBets 73 = .ok (.aload 7, 2) := by decide +kernel
theorem dX3_settleBets_75 : decode cX3_settleBets 75 = .ok (.getfield 111, 3) := by decide +kernel
theorem dX3_settleBets_78 : decode cX3_settleBets 78 = .ok (.iload_n 1, 1) := by decide +kernel
theorem dX3_settleBets_79 : decode cX3_settleBets 79 = .ok (.if_icmp .ne 45, 3) := by decide +kernel
theorem dX3_settleBets_82 : decode cX3_settleBets 82 = .ok (.iload 4, 2) := by decide +kernel
theorem dX3_settleBets_84 : decode cX3_settleBets 84 = .ok (.aload 7, 2) := by decide +kernel
theorem dX3_settleBets_86 : decode cX3_settleBets 86 = .ok (.getfield 101, 3) := by decide +kernel
theorem dX3_settleBets_89 : decode cX3_settleBets 89 = .ok (.imul, 1) := by decide +kernel
theorem dX3_settleBets_90 : decode cX3_settleBets 90 = .ok (.iload_n 3, 1) := by decide +kernel
theorem dX3_settleBets_91 : decode cX3_settleBets 91 = .ok (.idiv, 1) := by decide +kernel
theorem dX3_settleBets_92 : decode cX3_settleBets 92 = .ok (.istore 8, 2) := by decide +kernel
theorem dX3_settleBets_94 : decode cX3_settleBets 94 = .ok (.aload 7, 2) := by decide +kernel
theorem dX3_settleBets_96 : decode cX3_settleBets 96 = .ok (.dup, 1) := by decide +kernel
theorem dX3_settleBets_97 : decode cX3_settleBets 97 = .ok (.getfield 85, 3) := by decide +kernel
theorem dX3_settleBets_100 : decode cX3_settleBets 100 = .ok (.iload 8, 2) := by decide +kernel
theorem dX3_settleBets_102 : decode cX3_settleBets 102 = .ok (.iadd, 1) := by decide +kernel
theorem dX3_settleBets_103 : decode cX3_settleBets 103 = .ok (.putfield 85, 3) := by decide +kernel
theorem dX3_settleBets_106 : decode cX3_settleBets 106 = .ok (.iload 5, 2) := by decide +kernel
theorem dX3_settleBets_108 : decode cX3_settleBets 108 = .ok (.iload 8, 2) := by decide +kernel
theorem dX3_settleBets_110 : decode cX3_settleBets 110 = .ok (.iadd, 1) := by decide +kernel
theorem dX3_settleBets_111 : decode cX3_settleBets 111 = .ok (.istore 5, 2) := by decide +kernel
theorem dX3_settleBets_113 : decode cX3_settleBets 113 = .ok (.aload_n 0, 1) := by decide +kernel
theorem dX3_settleBets_114 : decode cX3_settleBets 114 = .ok (.iload 6, 2) := by decide +kernel
theorem dX3_settleBets_116 : decode cX3_settleBets 116 = .ok (.iload 8, 2) := by decide +kernel
theorem dX3_settleBets_118 : decode cX3_settleBets 118 = .ok (.invokevirtual 135, 3) := by decide +kernel
theorem dX3_settleBets_121 : decode cX3_settleBets 121 = .ok (.goto 18, 3) := by decide +kernel
theorem dX3_settleBets_124 : decode cX3_settleBets 124 = .ok (.aload 7, 2) := by decide +kernel
theorem dX3_settleBets_126 : decode cX3_settleBets 126 = .ok (.dup, 1) := by decide +kernel
theorem dX3_settleBets_127 : decode cX3_settleBets 127 = .ok (.getfield 85, 3) := by decide +kernel
theorem dX3_settleBets_130 : decode cX3_settleBets 130 = .ok (.aload 7, 2) := by decide +kernel
theorem dX3_settleBets_132 : decode cX3_settleBets 132 = .ok (.getfield 101, 3) := by decide +kernel
theorem dX3_settleBets_135 : decode cX3_settleBets 135 = .ok (.isub, 1) := by decide +kernel
theorem dX3_settleBets_136 : decode cX3_settleBets 136 = .ok (.putfield 85, 3) := by decide +kernel
theorem dX3_settleBets_139 : decode cX3_settleBets 139 = .ok (.iinc 6 1, 3) := by decide +kernel
theorem dX3_settleBets_142 : decode cX3_settleBets 142 = .ok (.goto (-87), 3) := by decide +kernel
theorem dX3_settleBets_145 : decode cX3_settleBets 145 = .ok (.aload_n 0, 1) := by decide +kernel
theorem dX3_settleBets_146 : decode cX3_settleBets 146 = .ok (.dup, 1) := by decide +kernel
theorem dX3_settleBets_147 : decode cX3_settleBets 147 = .ok (.getfield 52, 3) := by decide +kernel
theorem dX3_settleBets_150 : decode cX3_settleBets 150 = .ok (.iload_n 2, 1) := by decide +kernel
theorem dX3_settleBets_151 : decode cX3_settleBets 151 = .ok (.iload 5, 2) := by decide +kernel
theorem dX3_settleBets_153 : decode cX3_settleBets 153 = .ok (.isub, 1) := by decide +kernel
theorem dX3_settleBets_154 : decode cX3_settleBets 154 = .ok (.iadd, 1) := by decide +kernel
theorem dX3_settleBets_155 : decode cX3_settleBets 155 = .ok (.putfield 52, 3) := by decide +kernel
theorem dX3_settleBets_158 : decode cX3_settleBets 158 = .ok (.aload_n 0, 1) := by decide +kernel
theorem dX3_settleBets_159 : decode cX3_settleBets 159 = .ok (.invokevirtual 138, 3) := by decide +kernel
theorem dX3_settleBets_162 : decode cX3_settleBets 162 = .ok (.iload_n 2, 1) := by decide +kernel
theorem dX3_settleBets_163 : decode cX3_settleBets 163 = .ok (.ireturn, 1) := by decide +kernel
theorem dX3_payCreditors_0 : decode cX3_payCreditors 0 = .ok (.iload_n 2, 1) := by decide +kernel
theorem dX3_payCreditors_1 : decode cX3_payCreditors 1 = .ok (.aload_n 0, 1) := by decide +kernel
theorem dX3_payCreditors_2 : decode cX3_payCreditors 2 = .ok (.getfield 25, 3) := by decide +kernel
theorem dX3_payCreditors_5 : decode cX3_payCreditors 5 = .ok (.iconst 2, 1) := by decide +kernel
theorem dX3_payCreditors_6 : decode cX3_payCreditors 6 = .ok (.iaload, 1) := by decide +kernel
theorem dX3_payCreditors_7 : decode cX3_payCreditors 7 = .ok (.imul, 1) := by decide +kernel
theorem dX3_payCreditors_8 : decode cX3_payCreditors 8 = .ok (.bipush 100, 2) := by decide +kernel
theorem dX3_payCreditors_10 : decode cX3_payCreditors 10 = .ok (.idiv, 1) := by decide +kernel
theorem dX3_payCreditors_11 : decode cX3_payCreditors 11 = .ok (.istore_n 3, 1) := by decide +kernel
theorem dX3_payCreditors_12 : decode cX3_payCreditors 12 = .ok (.iconst 0, 1) := by decide +kernel
theorem dX3_payCreditors_13 : decode cX3_payCreditors 13 = .ok (.istore 4, 2) := by decide +kernel
theorem dX3_payCreditors_15 : decode cX3_payCreditors 15 = .ok (.iload 4, 2) := by decide +kernel
theorem dX3_payCreditors_17 : decode cX3_payCreditors 17 = .ok (.aload_n 0, 1) := by decide +kernel
theorem dX3_payCreditors_18 : decode cX3_payCreditors 18 = .ok (.getfield 40, 3) := by decide +kernel
theorem dX3_payCreditors_21 : decode cX3_payCreditors 21 = .ok (.if_icmp .ge 95, 3) := by decide +kernel
theorem dX3_payCreditors_24 : decode cX3_payCreditors 24 = .ok (.iload_n 3, 1) := by decide +kernel
theorem dX3_payCreditors_25 : decode cX3_payCreditors 25 = .ok (.ifCond .le 91, 3) := by decide +kernel
theorem dX3_payCreditors_28 : decode cX3_payCreditors 28 = .ok (.aload_n 0, 1) := by decide +kernel
theorem dX3_payCreditors_29 : decode cX3_payCreditors 29 = .ok (.getfield 20, 3) := by decide +kernel
theorem dX3_payCreditors_32 : decode cX3_payCreditors 32 = .ok (.iload 4, 2) := by decide +kernel
theorem dX3_payCreditors_34 : decode cX3_payCreditors 34 = .ok (.aaload, 1) := by decide +kernel
theorem dX3_payCreditors_35 : decode cX3_payCreditors 35 = .ok (.astore 5, 2) := by decide +kernel
theorem dX3_payCreditors_37 : decode cX3_payCreditors 37 = .ok (.aload 5, 2) := by decide +kernel
theorem dX3_payCreditors_39 : decode cX3_payCreditors 39 = .ok (.getfield 91, 3) := by decide +kernel
theorem dX3_payCreditors_42 : decode cX3_payCreditors 42 = .ok (.iload_n 1, 1) := by decide +kernel
theorem dX3_payCreditors_43 : decode cX3_payCreditors 43 = .ok (.if_icmp .ne 67, 3) := by decide +kernel
theorem dX3_payCreditors_46 : decode cX3_payCreditors 46 = .ok (.iload_n 3, 1) := by decide +kernel
theorem dX3_payCreditors_47 : decode cX3_payCreditors 47 = .ok (.aload 5, 2) := by decide +kernel
theorem dX3_payCreditors_49 : decode cX3_payCreditors 49 = .ok (.getfield 94, 3) := by decide +kernel
theorem dX3_payCreditors_52 : decode cX3_payCreditors 52 = .ok (.invokestatic 141, 3) := by decide +kernel
theorem dX3_payCreditors_55 : decode cX3_payCreditors 55 = .ok (.istore 6, 2) := by decide +kernel
theorem dX3_payCreditors_57 : decode cX3_payCreditors 57 = .ok (.iload_n 3, 1) := by decide +kernel
theorem dX3_payCreditors_58 : decode cX3_payCreditors 58 = .ok (.iload 6, 2) := by decide +kernel
theorem dX3_payCreditors_60 : decode cX3_payCreditors 60 = .ok (.isub, 1) := by decide +kernel
theorem dX3_payCreditors_61 : decode cX3_payCreditors 61 = .ok (.istore_n 3, 1) := by decide +kernel
theorem dX3_payCreditors_62 : decode cX3_payCreditors 62 = .ok (.aload 5, 2) := by decide +kernel
theorem dX3_payCreditors_64 : decode cX3_payCreditors 64 = .ok (.dup, 1) := by decide +kernel
theorem dX3_payCreditors_65 : decode cX3_payCreditors 65 = .ok (.getfield 94, 3) := by decide +kernel
theorem dX3_payCreditors_68 : decode cX3_payCreditors 68 = .ok (.iload 6, 2) := by decide +kernel
theorem dX3_payCreditors_70 : decode cX3_payCreditors 70 = .ok (.isub, 1) := by decide +kernel
theorem dX3_payCreditors_71 : decode cX3_payCreditors 71 = .ok (.putfield 94, 3) := by decide +kernel
theorem dX3_payCreditors_74 : decode cX3_payCreditors 74 = .ok (.aload_n 0, 1) := by decide +kernel
theorem dX3_payCreditors_75 : decode cX3_payCreditors 75 = .ok (.getfield 11, 3) := by decide +kernel
theorem dX3_payCreditors_78 : decode cX3_payCreditors 78 = .ok (.iload_n 1, 1) := by decide +kernel
theorem dX3_payCreditors_79 : decode cX3_payCreditors 79 = .ok (.aaload, 1) := by decide +kernel
theorem dX3_payCreditors_80 : decode cX3_payCreditors 80 = .ok (.dup, 1) := by decide +kernel
theorem dX3_payCreditors_81 : decode cX3_payCreditors 81 = .ok (.getfield 85, 3) := by decide +kernel
theorem dX3_payCreditors_84 : decode cX3_payCreditors 84 = .ok (.iload 6, 2) := by decide +kernel
theorem dX3_payCreditors_86 : decode cX3_payCreditors 86 = .ok (.isub, 1) := by decide +kernel
theorem dX3_payCreditors_87 : decode cX3_payCreditors 87 = .ok (.putfield 85, 3) := by decide +kernel
theorem dX3_payCreditors_90 : decode cX3_payCreditors 90 = .ok (.aload_n 0, 1) := by decide +kernel
theorem dX3_payCreditors_91 : decode cX3_payCreditors 91 = .ok (.getfield 11, 3) := by decide +kernel
theorem dX3_payCreditors_94 : decode cX3_payCreditors 94 = .ok (.aload 5, 2) := by decide +kernel
theorem dX3_payCreditors_96 : decode cX3_payCreditors 96 = .ok (.getfield 88, 3) := by decide +kernel
theorem dX3_payCreditors_99 : decode cX3_payCreditors 99 = .ok (.aaload, 1) := by decide +kernel
theorem dX3_payCreditors_100 : decode cX3_payCreditors 100 = .ok (.dup, 1) := by decide +kernel
theorem dX3_payCreditors_101 : decode cX3_payCreditors 101 = .ok (.getfield 85, 3) := by decide +kernel
theorem dX3_payCreditors_104 : decode cX3_payCreditors 104 = .ok (.iload 6, 2) := by decide +kernel
theorem dX3_payCreditors_106 : decode cX3_payCreditors 106 = .ok (.iadd, 1) := by decide +kernel
theorem dX3_payCreditors_107 : decode cX3_payCreditors 107 = .ok (.putfield 85, 3) := by decide +kernel
theorem dX3_payCreditors_110 : decode cX3_payCreditors 110 = .ok (.iinc 4 1, 3) := by decide +kernel
theorem dX3_payCreditors_113 : decode cX3_payCreditors 113 = .ok (.goto (-98), 3) := by decide +kernel
theorem dX3_payCreditors_116 : decode cX3_payCreditors 116 = .ok (.return_, 1) := by decide +kernel
theorem dX3_dropLoansPaidBack_0 : decode cX3_dropLoansPaidBack 0 = .ok (.iconst 0, 1) := by decide +kernel
theorem dX3_dropLoansPaidBack_1 : decode cX3_dropLoansPaidBack 1 = .ok (.istore_n 1, 1) := by decide +kernel
theorem dX3_dropLoansPaidBack_2 : decode cX3_dropLoansPaidBack 2 = .ok (.iconst 0, 1) := by decide +kernel
theorem dX3_dropLoansPaidBack_3 : decode cX3_dropLoansPaidBack 3 = .ok (.istore_n 2, 1) := by decide +kernel
theorem dX3_dropLoansPaidBack_4 : decode cX3_dropLoansPaidBack 4 = .ok (.iload_n 2, 1) := by decide +kernel
theorem dX3_dropLoansPaidBack_5 : decode cX3_dropLoansPaidBack 5 = .ok (.aload_n 0, 1) := by decide +kernel
theorem dX3_dropLoansPaidBack_6 : decode cX3_dropLoansPaidBack 6 = .ok (.getfield 40, 3) := by decide +kernel
theorem dX3_dropLoansPaidBack_9 : decode cX3_dropLoansPaidBack 9 = .ok (.if_icmp .ge 39, 3) := by decide +kernel
theorem dX3_dropLoansPaidBack_12 : decode cX3_dropLoansPaidBack 12 = .ok (.aload_n 0, 1) := by decide +kernel
theorem dX3_dropLoansPaidBack_13 : decode cX3_dropLoansPaidBack 13 = .ok (.getfield 20, 3) := by decide +kernel
theorem dX3_dropLoansPaidBack_16 : decode cX3_dropLoansPaidBack 16 = .ok (.iload_n 2, 1) := by decide +kernel
theorem dX3_dropLoansPaidBack_17 : decode cX3_dropLoansPaidBack 17 = .ok (.aaload, 1) := by decide +kernel
theorem dX3_dropLoansPaidBack_18 : decode cX3_dropLoansPaidBack 18 = .ok (.getfield 94, 3) := by decide +kernel
theorem dX3_dropLoansPaidBack_21 : decode cX3_dropLoansPaidBack 21 = .ok (.ifCond .le 21, 3) := by decide +kernel
theorem dX3_dropLoansPaidBack_24 : decode cX3_dropLoansPaidBack 24 = .ok (.aload_n 0, 1) := by decide +kernel
theorem dX3_dropLoansPaidBack_25 : decode cX3_dropLoansPaidBack 25 = .ok (.getfield 20, 3) := by decide +kernel
theorem dX3_dropLoansPaidBack_28 : decode cX3_dropLoansPaidBack 28 = .ok (.iload_n 1, 1) := by decide +kernel
theorem dX3_dropLoansPaidBack_29 : decode cX3_dropLoansPaidBack 29 = .ok (.aaload, 1) := by decide +kernel
theorem dX3_dropLoansPaidBack_30 : decode cX3_dropLoansPaidBack 30 = .ok (.aload_n 0, 1) := by decide +kernel
theorem dX3_dropLoansPaidBack_31 : decode cX3_dropLoansPaidBack 31 = .ok (.getfield 20, 3) := by decide +kernel
theorem dX3_dropLoansPaidBack_34 : decode cX3_dropLoansPaidBack 34 = .ok (.iload_n 2, 1) := by decide +kernel
theorem dX3_dropLoansPaidBack_35 : decode cX3_dropLoansPaidBack 35 = .ok (.aaload, 1) := by decide +kernel
theorem dX3_dropLoansPaidBack_36 : decode cX3_dropLoansPaidBack 36 = .ok (.invokevirtual 43, 3) := by decide +kernel
theorem dX3_dropLoansPaidBack_39 : decode cX3_dropLoansPaidBack 39 = .ok (.iinc 1 1, 3) := by decide +kernel
theorem dX3_dropLoansPaidBack_42 : decode cX3_dropLoansPaidBack 42 = .ok (.iinc 2 1, 3) := by decide +kernel
theorem dX3_dropLoansPaidBack_45 : decode cX3_dropLoansPaidBack 45 = .ok (.goto (-41), 3) := by decide +kernel
theorem dX3_dropLoansPaidBack_48 : decode cX3_dropLoansPaidBack 48 = .ok (.aload_n 0, 1) := by decide +kernel
theorem dX3_dropLoansPaidBack_49 : decode cX3_dropLoansPaidBack 49 = .ok (.iload_n 1, 1) := by decide +kernel
theorem dX3_dropLoansPaidBack_50 : decode cX3_dropLoansPaidBack 50 = .ok (.putfield 40, 3) := by decide +kernel
theorem dX3_dropLoansPaidBack_53 : decode cX3_dropLoansPaidBack 53 = .ok (.return_, 1) := by decide +kernel
theorem dX3_keepRecords_0 : decode cX3_keepRecords 0 = .ok (.iconst 0, 1) := by decide +kernel
theorem dX3_keepRecords_1 : decode cX3_keepRecords 1 = .ok (.istore_n 2, 1) := by decide +kernel
theorem dX3_keepRecords_2 : decode cX3_keepRecords 2 = .ok (.iload_n 2, 1) := by decide +kernel
theorem dX3_keepRecords_3 : decode cX3_keepRecords 3 = .ok (.aload_n 0, 1) := by decide +kernel
theorem dX3_keepRecords_4 : decode cX3_keepRecords 4 = .ok (.getfield 32, 3) := by decide +kernel
theorem dX3_keepRecords_7 : decode cX3_keepRecords 7 = .ok (.if_icmp .ge 48, 3) := by decide +kernel
theorem dX3_keepRecords_10 : decode cX3_keepRecords 10 = .ok (.aload_n 0, 1) := by decide +kernel
theorem dX3_keepRecords_11 : decode cX3_keepRecords 11 = .ok (.getfield 11, 3) := by decide +kernel
theorem dX3_keepRecords_14 : decode cX3_keepRecords 14 = .ok (.iload_n 2, 1) := by decide +kernel
theorem dX3_keepRecords_15 : decode cX3_keepRecords 15 = .ok (.aaload, 1) := by decide +kernel
theorem dX3_keepRecords_16 : decode cX3_keepRecords 16 = .ok (.getfield 101, 3) := by decide +kernel
theorem dX3_keepRecords_19 : decode cX3_keepRecords 19 = .ok (.ifCond .le 30, 3) := by decide +kernel
theorem dX3_keepRecords_22 : decode cX3_keepRecords 22 = .ok (.aload_n 0, 1) := by decide +kernel
theorem dX3_keepRecords_23 : decode cX3_keepRecords 23 = .ok (.getfield 11, 3) := by decide +kernel
theorem dX3_keepRecords_26 : decode cX3_keepRecords 26 = .ok (.iload_n 2, 1) := by decide +kernel
theorem dX3_keepRecords_27 : decode cX3_keepRecords 27 = .ok (.aaload, 1) := by decide +kernel
theorem dX3_keepRecords_28 : decode cX3_keepRecords 28 = .ok (.aload_n 0, 1) := by decide +kernel
theorem dX3_keepRecords_29 : decode cX3_keepRecords 29 = .ok (.getfield 11, 3) := by decide +kernel
theorem dX3_keepRecords_32 : decode cX3_keepRecords 32 = .ok (.iload_n 2, 1) := by decide +kernel
theorem dX3_keepRecords_33 : decode cX3_keepRecords 33 = .ok (.aaload, 1) := by decide +kernel
theorem dX3_keepRecords_34 : decode cX3_keepRecords 34 = .ok (.getfield 111, 3) := by decide +kernel
theorem dX3_keepRecords_37 : decode cX3_keepRecords 37 = .ok (.iload_n 1, 1) := by decide +kernel
theorem dX3_keepRecords_38 : decode cX3_keepRecords 38 = .ok (.if_icmp .ne 7, 3) := by decide +kernel
theorem dX3_keepRecords_41 : decode cX3_keepRecords 41 = .ok (.iconst 1, 1) := by decide +kernel
theorem dX3_keepRecords_42 : decode cX3_keepRecords 42 = .ok (.goto 4, 3) := by decide +kernel
theorem dX3_keepRecords_45 : decode cX3_keepRecords 45 = .ok (.iconst 0, 1) := by decide +kernel
theorem dX3_keepRecords_46 : decode cX3_keepRecords 46 = .ok (.invokevirtual 146, 3) := by decide +kernel
theorem dX3_keepRecords_49 : decode cX3_keepRecords 49 = .ok (.iinc 2 1, 3) := by decide +kernel
theorem dX3_keepRecords_52 : decode cX3_keepRecords 52 = .ok (.goto (-50), 3) := by decide +kernel
theorem dX3_keepRecords_55 : decode cX3_keepRecords 55 = .ok (.return_, 1) := by decide +kernel
theorem dX3_learnFrom_0 : decode cX3_learnFrom 0 = .ok (.iconst 0, 1) := by decide +kernel
theorem dX3_learnFrom_1 : decode cX3_learnFrom 1 = .ok (.istore_n 3, 1) := by decide +kernel
theorem dX3_learnFrom_2 : decode cX3_learnFrom 2 = .ok (.iload_n 3, 1) := by decide +kernel
theorem dX3_learnFrom_3 : decode cX3_learnFrom 3 = .ok (.aload_n 0, 1) := by decide +kernel
theorem dX3_learnFrom_4 : decode cX3_learnFrom 4 = .ok (.getfield 32, 3) := by decide +kernel
theorem dX3_learnFrom_7 : decode cX3_learnFrom 7 = .ok (.if_icmp .ge 36, 3) := by decide +kernel
theorem dX3_learnFrom_10 : decode cX3_learnFrom 10 = .ok (.aload_n 0, 1) := by decide +kernel
theorem dX3_learnFrom_11 : decode cX3_learnFrom 11 = .ok (.getfield 11, 3) := by decide +kernel
theorem dX3_learnFrom_14 : decode cX3_learnFrom 14 = .ok (.iload_n 3, 1) := by decide +kernel
theorem dX3_learnFrom_15 : decode cX3_learnFrom 15 = .ok (.aaload, 1) := by decide +kernel
theorem dX3_learnFrom_16 : decode cX3_learnFrom 16 = .ok (.invokevirtual 150, 3) := by decide +kernel
theorem dX3_learnFrom_19 : decode cX3_learnFrom 19 = .ok (.ifCond .eq 18, 3) := by decide +kernel
theorem dX3_learnFrom_22 : decode cX3_learnFrom 22 = .ok (.aload_n 0, 1) := by decide +kernel
theorem dX3_learnFrom_23 : decode cX3_learnFrom 23 = .ok (.getfield 11, 3) := by decide +kernel
theorem dX3_learnFrom_26 : decode cX3_learnFrom 26 = .ok (.iload_n 3, 1) := by decide +kernel
theorem dX3_learnFrom_27 : decode cX3_learnFrom 27 = .ok (.aaload, 1) := by decide +kernel
theorem dX3_learnFrom_28 : decode cX3_learnFrom 28 = .ok (.iload_n 1, 1) := by decide +kernel
theorem dX3_learnFrom_29 : decode cX3_learnFrom 29 = .ok (.iload_n 2, 1) := by decide +kernel
theorem dX3_learnFrom_30 : decode cX3_learnFrom 30 = .ok (.aload_n 0, 1) := by decide +kernel
theorem dX3_learnFrom_31 : decode cX3_learnFrom 31 = .ok (.getfield 55, 3) := by decide +kernel
theorem dX3_learnFrom_34 : decode cX3_learnFrom 34 = .ok (.invokevirtual 153, 3) := by decide +kernel
theorem dX3_learnFrom_37 : decode cX3_learnFrom 37 = .ok (.iinc 3 1, 3) := by decide +kernel
theorem dX3_learnFrom_40 : decode cX3_learnFrom 40 = .ok (.goto (-38), 3) := by decide +kernel
theorem dX3_learnFrom_43 : decode cX3_learnFrom 43 = .ok (.aload_n 0, 1) := by decide +kernel
theorem dX3_learnFrom_44 : decode cX3_learnFrom 44 = .ok (.iconst 2, 1) := by decide +kernel
theorem dX3_learnFrom_45 : decode cX3_learnFrom 45 = .ok (.aload_n 0, 1) := by decide +kernel
theorem dX3_learnFrom_46 : decode cX3_learnFrom 46 = .ok (.getfield 55, 3) := by decide +kernel
theorem dX3_learnFrom_49 : decode cX3_learnFrom 49 = .ok (.imul, 1) := by decide +kernel
theorem dX3_learnFrom_50 : decode cX3_learnFrom 50 = .ok (.iload_n 2, 1) := by decide +kernel
theorem dX3_learnFrom_51 : decode cX3_learnFrom 51 = .ok (.iadd, 1) := by decide +kernel
theorem dX3_learnFrom_52 : decode cX3_learnFrom 52 = .ok (.sipush 255, 3) := by decide +kernel
theorem dX3_learnFrom_55 : decode cX3_learnFrom 55 = .ok (.iand, 1) := by decide +kernel
theorem dX3_learnFrom_56 : decode cX3_learnFrom 56 = .ok (.putfield 55, 3) := by decide +kernel
theorem dX3_learnFrom_59 : decode cX3_learnFrom 59 = .ok (.aload_n 0, 1) := by decide +kernel
theorem dX3_learnFrom_60 : decode cX3_learnFrom 60 = .ok (.dup, 1) := by decide +kernel
theorem dX3_learnFrom_61 : decode cX3_learnFrom 61 = .ok (.getfield 58, 3) := by decide +kernel
theorem dX3_learnFrom_64 : decode cX3_learnFrom 64 = .ok (.iconst 1, 1) := by decide +kernel
theorem dX3_learnFrom_65 : decode cX3_learnFrom 65 = .ok (.iadd, 1) := by decide +kernel
theorem dX3_learnFrom_66 : decode cX3_learnFrom 66 = .ok (.putfield 58, 3) := by decide +kernel
theorem dX3_learnFrom_69 : decode cX3_learnFrom 69 = .ok (.aload_n 0, 1) := by decide +kernel
theorem dX3_learnFrom_70 : decode cX3_learnFrom 70 = .ok (.dup, 1) := by decide +kernel
theorem dX3_learnFrom_71 : decode cX3_learnFrom 71 = .ok (.getfield 64, 3) := by decide +kernel
theorem dX3_learnFrom_74 : decode cX3_learnFrom 74 = .ok (.lconst 1, 1) := by decide +kernel
theorem dX3_learnFrom_75 : decode cX3_learnFrom 75 = .ok (.iload_n 1, 1) := by decide +kernel
theorem dX3_learnFrom_76 : decode cX3_learnFrom 76 = .ok (.lshl, 1) := by decide +kernel
theorem dX3_learnFrom_77 : decode cX3_learnFrom 77 = .ok (.lor, 1) := by decide +kernel
theorem dX3_learnFrom_78 : decode cX3_learnFrom 78 = .ok (.putfield 64, 3) := by decide +kernel
theorem dX3_learnFrom_81 : decode cX3_learnFrom 81 = .ok (.return_, 1) := by decide +kernel
theorem dX4_init_0 : decode cX4_init 0 = .ok (.aload_n 0, 1) := by decide +kernel
theorem dX4_init_1 : decode cX4_init 1 = .ok (.invokespecial 3, 3) := by decide +kernel
theorem dX4_init_4 : decode cX4_init 4 = .ok (.aload_n 0, 1) := by decide +kernel
theorem dX4_init_5 : decode cX4_init 5 = .ok (.bipush 80, 2) := by decide +kernel
theorem dX4_init_7 : decode cX4_init 7 = .ok (.newarray .char, 2) := by decide +kernel
theorem dX4_init_9 : decode cX4_init 9 = .ok (.putfield 9, 3) := by decide +kernel
theorem dX4_init_12 : decode cX4_init 12 = .ok (.aload_n 0, 1) := by decide +kernel
theorem dX4_init_13 : decode cX4_init 13 = .ok (.iconst 2, 1) := by decide +kernel
theorem dX4_init_14 : decode cX4_init 14 = .ok (.newarray .int, 2) := by decide +kernel
theorem dX4_init_16 : decode cX4_init 16 = .ok (.putfield 15, 3) := by decide +kernel
theorem dX4_init_19 : decode cX4_init 19 = .ok (.return_, 1) := by decide +kernel
theorem dJ9_max_7cf53_0 : decode cJ9_max_7cf53 0 = .ok (.iload_n 0, 1) := by decide +kernel
theorem dJ9_max_7cf53_1 : decode cJ9_max_7cf53 1 = .ok (.iload_n 1, 1) := by decide +kernel
theorem dJ9_max_7cf53_2 : decode cJ9_max_7cf53 2 = .ok (.if_icmp .lt 7, 3) := by decide +kernel
theorem dJ9_max_7cf53_5 : decode cJ9_max_7cf53 5 = .ok (.iload_n 0, 1) := by decide +kernel
theorem dJ9_max_7cf53_6 : decode cJ9_max_7cf53 6 = .ok (.goto 4, 3) := by decide +kernel
theorem dJ9_max_7cf53_9 : decode cJ9_max_7cf53 9 = .ok (.iload_n 1, 1) := by decide +kernel
theorem dJ9_max_7cf53_10 : decode cJ9_max_7cf53 10 = .ok (.ireturn, 1) := by decide +kernel
theorem dJ9_min_7cf53_0 : decode cJ9_min_7cf53 0 = .ok (.iload_n 0, 1) := by decide +kernel
theorem dJ9_min_7cf53_1 : decode cJ9_min_7cf53 1 = .ok (.iload_n 1, 1) := by decide +kernel
theorem dJ9_min_7cf53_2 : decode cJ9_min_7cf53 2 = .ok (.if_icmp .gt 7, 3) := by decide +kernel
theorem dJ9_min_7cf53_5 : decode cJ9_min_7cf53 5 = .ok (.iload_n 0, 1) := by decide +kernel
theorem dJ9_min_7cf53_6 : decode cJ9_min_7cf53 6 = .ok (.goto 4, 3) := by decide +kernel
theorem dJ9_min_7cf53_9 : decode cJ9_min_7cf53 9 = .ok (.iload_n 1, 1) := by decide +kernel
theorem dJ9_min_7cf53_10 : decode cJ9_min_7cf53 10 = .ok (.ireturn, 1) := by decide +kernel
