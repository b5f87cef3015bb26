/-! decode rows (printed by the kit's program) -/
theorem dX5_init_0 : decode cX5_init 0 = .ok (.aload_n 0, 1) := by decide +kernel
theorem dX5_init_1 : decode cX5_init 1 = .ok (.invokespecial 1, 3) := by decide +kernel
theorem dX5_init_4 : decode cX5_init 4 = .ok (.aload_n 0, 1) := by decide +kernel
theorem dX5_init_5 : decode cX5_init 5 = .ok (.new 7, 3) := by decide +kernel
theorem dX5_init_8 : decode cX5_init 8 = .ok (.dup, 1) := by decide +kernel
theorem dX5_init_9 : decode cX5_init 9 = .ok (.invokespecial 9, 3) := by decide +kernel
theorem dX5_init_12 : decode cX5_init 12 = .ok (.putfield 10, 3) := by decide +kernel
theorem dX5_init_15 : decode cX5_init 15 = .ok (.aload_n 0, 1) := by decide +kernel
theorem dX5_init_16 : decode cX5_init 16 = .ok (.new 7, 3) := by decide +kernel
theorem dX5_init_19 : decode cX5_init 19 = .ok (.dup, 1) := by decide +kernel
theorem dX5_init_20 : decode cX5_init 20 = .ok (.invokespecial 9, 3) := by decide +kernel
theorem dX5_init_23 : decode cX5_init 23 = .ok (.putfield 16, 3) := by decide +kernel
theorem dX5_init_26 : decode cX5_init 26 = .ok (.aload_n 0, 1) := by decide +kernel
theorem dX5_init_27 : decode cX5_init 27 = .ok (.new 19, 3) := by decide +kernel
theorem dX5_init_30 : decode cX5_init 30 = .ok (.dup, 1) := by decide +kernel
theorem dX5_init_31 : decode cX5_init 31 = .ok (.invokespecial 21, 3) := by decide +kernel
theorem dX5_init_34 : decode cX5_init 34 = .ok (.putfield 22, 3) := by decide +kernel
theorem dX5_init_37 : decode cX5_init 37 = .ok (.aload_n 0, 1) := by decide +kernel
theorem dX5_init_38 : decode cX5_init 38 = .ok (.new 26, 3) := by decide +kernel
theorem dX5_init_41 : decode cX5_init 41 = .ok (.dup, 1) := by decide +kernel
theorem dX5_init_42 : decode cX5_init 42 = .ok (.invokespecial 28, 3) := by decide +kernel
theorem dX5_init_45 : decode cX5_init 45 = .ok (.putfield 29, 3) := by decide +kernel
theorem dX5_init_48 : decode cX5_init 48 = .ok (.return_, 1) := by decide +kernel
theorem dX5_set_0 : decode cX5_set 0 = .ok (.iload_n 1, 1) := by decide +kernel
theorem dX5_set_1 : decode cX5_set 1 = .ok (.iconst 0, 1) := by decide +kernel
theorem dX5_set_2 : decode cX5_set 2 = .ok (.iconst 2, 1) := by decide +kernel
theorem dX5_set_3 : decode cX5_set 3 = .ok (.invokestatic 33, 3) := by decide +kernel
theorem dX5_set_6 : decode cX5_set 6 = .ok (.ifCond .eq 20, 3) := by decide +kernel
theorem dX5_set_9 : decode cX5_set 9 = .ok (.iload_n 2, 1) := by decide +kernel
theorem dX5_set_10 : decode cX5_set 10 = .ok (.getstatic 37, 3) := by decide +kernel
theorem dX5_set_13 : decode cX5_set 13 = .ok (.iload_n 1, 1) := by decide +kernel
theorem dX5_set_14 : decode cX5_set 14 = .ok (.iaload, 1) := by decide +kernel
theorem dX5_set_15 : decode cX5_set 15 = .ok (.getstatic 41, 3) := by decide +kernel
theorem dX5_set_18 : decode cX5_set 18 = .ok (.iload_n 1, 1) := by decide +kernel
theorem dX5_set_19 : decode cX5_set 19 = .ok (.iaload, 1) := by decide +kernel
theorem dX5_set_20 : decode cX5_set 20 = .ok (.invokestatic 33, 3) := by decide +kernel
theorem dX5_set_23 : decode cX5_set 23 = .ok (.ifCond .ne 6, 3) := by decide +kernel
theorem dX5_set_26 : decode cX5_set 26 = .ok (.ldc 44, 2) := by decide +kernel
theorem dX5_set_28 : decode cX5_set 28 = .ok (.ireturn, 1) := by decide +kernel
theorem dX5_set_29 : decode cX5_set 29 = .ok (.aload_n 0, 1) := by decide +kernel
theorem dX5_set_30 : decode cX5_set 30 = .ok (.getfield 22, 3) := by decide +kernel
theorem dX5_set_33 : decode cX5_set 33 = .ok (.aload_n 0, 1) := by decide +kernel
theorem dX5_set_34 : decode cX5_set 34 = .ok (.getfield 10, 3) := by decide +kernel
theorem dX5_set_37 : decode cX5_set 37 = .ok (.invokevirtual 45, 3) := by decide +kernel
theorem dX5_set_40 : decode cX5_set 40 = .ok (.aload_n 0, 1) := by decide +kernel
theorem dX5_set_41 : decode cX5_set 41 = .ok (.getfield 10, 3) := by decide +kernel
theorem dX5_set_44 : decode cX5_set 44 = .ok (.getfield 49, 3) := by decide +kernel
theorem dX5_set_47 : decode cX5_set 47 = .ok (.iload_n 1, 1) := by decide +kernel
theorem dX5_set_48 : decode cX5_set 48 = .ok (.iaload, 1) := by decide +kernel
theorem dX5_set_49 : decode cX5_set 49 = .ok (.istore_n 3, 1) := by decide +kernel
theorem dX5_set_50 : decode cX5_set 50 = .ok (.aload_n 0, 1) := by decide +kernel
theorem dX5_set_51 : decode cX5_set 51 = .ok (.getfield 10, 3) := by decide +kernel
theorem dX5_set_54 : decode cX5_set 54 = .ok (.getfield 49, 3) := by decide +kernel
theorem dX5_set_57 : decode cX5_set 57 = .ok (.iload_n 1, 1) := by decide +kernel
theorem dX5_set_58 : decode cX5_set 58 = .ok (.iload_n 2, 1) := by decide +kernel
theorem dX5_set_59 : decode cX5_set 59 = .ok (.iastore, 1) := by decide +kernel
theorem dX5_set_60 : decode cX5_set 60 = .ok (.iload_n 3, 1) := by decide +kernel
theorem dX5_set_61 : decode cX5_set 61 = .ok (.ireturn, 1) := by decide +kernel
theorem dX5_oracle_0 : decode cX5_oracle 0 = .ok (.iload_n 1, 1) := by decide +kernel
theorem dX5_oracle_1 : decode cX5_oracle 1 = .ok (.iconst 0, 1) := by decide +kernel
theorem dX5_oracle_2 : decode cX5_oracle 2 = .ok (.iconst 4, 1) := by decide +kernel
theorem dX5_oracle_3 : decode cX5_oracle 3 = .ok (.invokestatic 33, 3) := by decide +kernel
theorem dX5_oracle_6 : decode cX5_oracle 6 = .ok (.ifCond .eq 26, 3) := by decide +kernel
theorem dX5_oracle_9 : decode cX5_oracle 9 = .ok (.iload_n 2, 1) := by decide +kernel
theorem dX5_oracle_10 : decode cX5_oracle 10 = .ok (.iconst 0, 1) := by decide +kernel
theorem dX5_oracle_11 : decode cX5_oracle 11 = .ok (.iload_n 1, 1) := by decide +kernel
theorem dX5_oracle_12 : decode cX5_oracle 12 = .ok (.invokestatic 52, 3) := by decide +kernel
theorem dX5_oracle_15 : decode cX5_oracle 15 = .ok (.invokestatic 33, 3) := by decide +kernel
theorem dX5_oracle_18 : decode cX5_oracle 18 = .ok (.ifCond .eq 14, 3) := by decide +kernel
theorem dX5_oracle_21 : decode cX5_oracle 21 = .ok (.iload_n 3, 1) := by decide +kernel
theorem dX5_oracle_22 : decode cX5_oracle 22 = .ok (.iconst 0, 1) := by decide +kernel
theorem dX5_oracle_23 : decode cX5_oracle 23 = .ok (.sipush 9999, 3) := by decide +kernel
theorem dX5_oracle_26 : decode cX5_oracle 26 = .ok (.invokestatic 33, 3) := by decide +kernel
theorem dX5_oracle_29 : decode cX5_oracle 29 = .ok (.ifCond .ne 6, 3) := by decide +kernel
theorem dX5_oracle_32 : decode cX5_oracle 32 = .ok (.ldc 44, 2) := by decide +kernel
theorem dX5_oracle_34 : decode cX5_oracle 34 = .ok (.ireturn, 1) := by decide +kernel
theorem dX5_oracle_35 : decode cX5_oracle 35 = .ok (.aload_n 0, 1) := by decide +kernel
theorem dX5_oracle_36 : decode cX5_oracle 36 = .ok (.getfield 10, 3) := by decide +kernel
theorem dX5_oracle_39 : decode cX5_oracle 39 = .ok (.getfield 56, 3) := by decide +kernel
theorem dX5_oracle_42 : decode cX5_oracle 42 = .ok (.bipush 6, 2) := by decide +kernel
theorem dX5_oracle_44 : decode cX5_oracle 44 = .ok (.if_icmp .lt 6, 3) := by decide +kernel
theorem dX5_oracle_47 : decode cX5_oracle 47 = .ok (.ldc 60, 2) := by decide +kernel
theorem dX5_oracle_49 : decode cX5_oracle 49 = .ok (.ireturn, 1) := by decide +kernel
theorem dX5_oracle_50 : decode cX5_oracle 50 = .ok (.aload_n 0, 1) := by decide +kernel
theorem dX5_oracle_51 : decode cX5_oracle 51 = .ok (.getfield 22, 3) := by decide +kernel
theorem dX5_oracle_54 : decode cX5_oracle 54 = .ok (.aload_n 0, 1) := by decide +kernel
theorem dX5_oracle_55 : decode cX5_oracle 55 = .ok (.getfield 10, 3) := by decide +kernel
theorem dX5_oracle_58 : decode cX5_oracle 58 = .ok (.invokevirtual 45, 3) := by decide +kernel
theorem dX5_oracle_61 : decode cX5_oracle 61 = .ok (.aload_n 0, 1) := by decide +kernel
theorem dX5_oracle_62 : decode cX5_oracle 62 = .ok (.getfield 10, 3) := by decide +kernel
theorem dX5_oracle_65 : decode cX5_oracle 65 = .ok (.getfield 56, 3) := by decide +kernel
theorem dX5_oracle_68 : decode cX5_oracle 68 = .ok (.istore 4, 2) := by decide +kernel
theorem dX5_oracle_70 : decode cX5_oracle 70 = .ok (.aload_n 0, 1) := by decide +kernel
theorem dX5_oracle_71 : decode cX5_oracle 71 = .ok (.getfield 10, 3) := by decide +kernel
theorem dX5_oracle_74 : decode cX5_oracle 74 = .ok (.getfield 61, 3) := by decide +kernel
theorem dX5_oracle_77 : decode cX5_oracle 77 = .ok (.iload 4, 2) := by decide +kernel
theorem dX5_oracle_79 : decode cX5_oracle 79 = .ok (.aaload, 1) := by decide +kernel
theorem dX5_oracle_80 : decode cX5_oracle 80 = .ok (.iload_n 1, 1) := by decide +kernel
theorem dX5_oracle_81 : decode cX5_oracle 81 = .ok (.iload_n 2, 1) := by decide +kernel
theorem dX5_oracle_82 : decode cX5_oracle 82 = .ok (.iload_n 3, 1) := by decide +kernel
theorem dX5_oracle_83 : decode cX5_oracle 83 = .ok (.invokevirtual 65, 3) := by decide +kernel
theorem dX5_oracle_86 : decode cX5_oracle 86 = .ok (.aload_n 0, 1) := by decide +kernel
theorem dX5_oracle_87 : decode cX5_oracle 87 = .ok (.getfield 10, 3) := by decide +kernel
theorem dX5_oracle_90 : decode cX5_oracle 90 = .ok (.iload 4, 2) := by decide +kernel
theorem dX5_oracle_92 : decode cX5_oracle 92 = .ok (.iconst 1, 1) := by decide +kernel
theorem dX5_oracle_93 : decode cX5_oracle 93 = .ok (.iadd, 1) := by decide +kernel
theorem dX5_oracle_94 : decode cX5_oracle 94 = .ok (.putfield 56, 3) := by decide +kernel
theorem dX5_oracle_97 : decode cX5_oracle 97 = .ok (.iload 4, 2) := by decide +kernel
theorem dX5_oracle_99 : decode cX5_oracle 99 = .ok (.ireturn, 1) := by decide +kernel
theorem dX5_seat_0 : decode cX5_seat 0 = .ok (.aload_n 0, 1) := by decide +kernel
theorem dX5_seat_1 : decode cX5_seat 1 = .ok (.iload_n 1, 1) := by decide +kernel
theorem dX5_seat_2 : decode cX5_seat 2 = .ok (.invokevirtual 71, 3) := by decide +kernel
theorem dX5_seat_5 : decode cX5_seat 5 = .ok (.ifCond .eq 12, 3) := by decide +kernel
theorem dX5_seat_8 : decode cX5_seat 8 = .ok (.iload_n 2, 1) := by decide +kernel
theorem dX5_seat_9 : decode cX5_seat 9 = .ok (.iconst 0, 1) := by decide +kernel
theorem dX5_seat_10 : decode cX5_seat 10 = .ok (.iconst 2, 1) := by decide +kernel
theorem dX5_seat_11 : decode cX5_seat 11 = .ok (.invokestatic 33, 3) := by decide +kernel
theorem dX5_seat_14 : decode cX5_seat 14 = .ok (.ifCond .ne 6, 3) := by decide +kernel
theorem dX5_seat_17 : decode cX5_seat 17 = .ok (.ldc 44, 2) := by decide +kernel
theorem dX5_seat_19 : decode cX5_seat 19 = .ok (.ireturn, 1) := by decide +kernel
theorem dX5_seat_20 : decode cX5_seat 20 = .ok (.aload_n 0, 1) := by decide +kernel
theorem dX5_seat_21 : decode cX5_seat 21 = .ok (.getfield 10, 3) := by decide +kernel
theorem dX5_seat_24 : decode cX5_seat 24 = .ok (.getfield 61, 3) := by decide +kernel
theorem dX5_seat_27 : decode cX5_seat 27 = .ok (.iload_n 1, 1) := by decide +kernel
theorem dX5_seat_28 : decode cX5_seat 28 = .ok (.aaload, 1) := by decide +kernel
theorem dX5_seat_29 : decode cX5_seat 29 = .ok (.astore_n 3, 1) := by decide +kernel
theorem dX5_seat_30 : decode cX5_seat 30 = .ok (.aload_n 3, 1) := by decide +kernel
theorem dX5_seat_31 : decode cX5_seat 31 = .ok (.invokevirtual 75, 3) := by decide +kernel
theorem dX5_seat_34 : decode cX5_seat 34 = .ok (.ifCond .ne 11, 3) := by decide +kernel
theorem dX5_seat_37 : decode cX5_seat 37 = .ok (.iload_n 2, 1) := by decide +kernel
theorem dX5_seat_38 : decode cX5_seat 38 = .ok (.aload_n 3, 1) := by decide +kernel
theorem dX5_seat_39 : decode cX5_seat 39 = .ok (.invokestatic 79, 3) := by decide +kernel
theorem dX5_seat_42 : decode cX5_seat 42 = .ok (.ifCond .ne 6, 3) := by decide +kernel
theorem dX5_seat_45 : decode cX5_seat 45 = .ok (.ldc 83, 2) := by decide +kernel
theorem dX5_seat_47 : decode cX5_seat 47 = .ok (.ireturn, 1) := by decide +kernel
theorem dX5_seat_48 : decode cX5_seat 48 = .ok (.aload_n 0, 1) := by decide +kernel
theorem dX5_seat_49 : decode cX5_seat 49 = .ok (.getfield 10, 3) := by decide +kernel
theorem dX5_seat_52 : decode cX5_seat 52 = .ok (.iload_n 2, 1) := by decide +kernel
theorem dX5_seat_53 : decode cX5_seat 53 = .ok (.invokevirtual 84, 3) := by decide +kernel
theorem dX5_seat_56 : decode cX5_seat 56 = .ok (.istore 4, 2) := by decide +kernel
theorem dX5_seat_58 : decode cX5_seat 58 = .ok (.iload 4, 2) := by decide +kernel
theorem dX5_seat_60 : decode cX5_seat 60 = .ok (.iconst (-1), 1) := by decide +kernel
theorem dX5_seat_61 : decode cX5_seat 61 = .ok (.if_icmp .ne 6, 3) := by decide +kernel
theorem dX5_seat_64 : decode cX5_seat 64 = .ok (.ldc 60, 2) := by decide +kernel
theorem dX5_seat_66 : decode cX5_seat 66 = .ok (.ireturn, 1) := by decide +kernel
theorem dX5_seat_67 : decode cX5_seat 67 = .ok (.aload_n 0, 1) := by decide +kernel
theorem dX5_seat_68 : decode cX5_seat 68 = .ok (.getfield 22, 3) := by decide +kernel
theorem dX5_seat_71 : decode cX5_seat 71 = .ok (.aload_n 0, 1) := by decide +kernel
theorem dX5_seat_72 : decode cX5_seat 72 = .ok (.getfield 10, 3) := by decide +kernel
theorem dX5_seat_75 : decode cX5_seat 75 = .ok (.invokevirtual 45, 3) := by decide +kernel
theorem dX5_seat_78 : decode cX5_seat 78 = .ok (.aload_n 3, 1) := by decide +kernel
theorem dX5_seat_79 : decode cX5_seat 79 = .ok (.iload_n 2, 1) := by decide +kernel
theorem dX5_seat_80 : decode cX5_seat 80 = .ok (.putfield 87, 3) := by decide +kernel
theorem dX5_seat_83 : decode cX5_seat 83 = .ok (.aload_n 3, 1) := by decide +kernel
theorem dX5_seat_84 : decode cX5_seat 84 = .ok (.iload 4, 2) := by decide +kernel
theorem dX5_seat_86 : decode cX5_seat 86 = .ok (.putfield 90, 3) := by decide +kernel
theorem dX5_seat_89 : decode cX5_seat 89 = .ok (.aload_n 0, 1) := by decide +kernel
theorem dX5_seat_90 : decode cX5_seat 90 = .ok (.getfield 10, 3) := by decide +kernel
theorem dX5_seat_93 : decode cX5_seat 93 = .ok (.iload_n 2, 1) := by decide +kernel
theorem dX5_seat_94 : decode cX5_seat 94 = .ok (.invokevirtual 93, 3) := by decide +kernel
theorem dX5_seat_97 : decode cX5_seat 97 = .ok (.ireturn, 1) := by decide +kernel
theorem dX5_stand_0 : decode cX5_stand 0 = .ok (.aload_n 0, 1) := by decide +kernel
theorem dX5_stand_1 : decode cX5_stand 1 = .ok (.iload_n 1, 1) := by decide +kernel
theorem dX5_stand_2 : decode cX5_stand 2 = .ok (.invokevirtual 71, 3) := by decide +kernel
theorem dX5_stand_5 : decode cX5_stand 5 = .ok (.ifCond .ne 6, 3) := by decide +kernel
theorem dX5_stand_8 : decode cX5_stand 8 = .ok (.ldc 44, 2) := by decide +kernel
theorem dX5_stand_10 : decode cX5_stand 10 = .ok (.ireturn, 1) := by decide +kernel
theorem dX5_stand_11 : decode cX5_stand 11 = .ok (.aload_n 0, 1) := by decide +kernel
theorem dX5_stand_12 : decode cX5_stand 12 = .ok (.getfield 10, 3) := by decide +kernel
theorem dX5_stand_15 : decode cX5_stand 15 = .ok (.getfield 61, 3) := by decide +kernel
theorem dX5_stand_18 : decode cX5_stand 18 = .ok (.iload_n 1, 1) := by decide +kernel
theorem dX5_stand_19 : decode cX5_stand 19 = .ok (.aaload, 1) := by decide +kernel
theorem dX5_stand_20 : decode cX5_stand 20 = .ok (.astore_n 2, 1) := by decide +kernel
theorem dX5_stand_21 : decode cX5_stand 21 = .ok (.aload_n 2, 1) := by decide +kernel
theorem dX5_stand_22 : decode cX5_stand 22 = .ok (.invokevirtual 75, 3) := by decide +kernel
theorem dX5_stand_25 : decode cX5_stand 25 = .ok (.ifCond .ne 6, 3) := by decide +kernel
theorem dX5_stand_28 : decode cX5_stand 28 = .ok (.ldc 83, 2) := by decide +kernel
theorem dX5_stand_30 : decode cX5_stand 30 = .ok (.ireturn, 1) := by decide +kernel
theorem dX5_stand_31 : decode cX5_stand 31 = .ok (.aload_n 0, 1) := by decide +kernel
theorem dX5_stand_32 : decode cX5_stand 32 = .ok (.getfield 22, 3) := by decide +kernel
theorem dX5_stand_35 : decode cX5_stand 35 = .ok (.aload_n 0, 1) := by decide +kernel
theorem dX5_stand_36 : decode cX5_stand 36 = .ok (.getfield 10, 3) := by decide +kernel
theorem dX5_stand_39 : decode cX5_stand 39 = .ok (.invokevirtual 45, 3) := by decide +kernel
theorem dX5_stand_42 : decode cX5_stand 42 = .ok (.aload_n 2, 1) := by decide +kernel
theorem dX5_stand_43 : decode cX5_stand 43 = .ok (.getfield 87, 3) := by decide +kernel
theorem dX5_stand_46 : decode cX5_stand 46 = .ok (.istore_n 3, 1) := by decide +kernel
theorem dX5_stand_47 : decode cX5_stand 47 = .ok (.aload_n 2, 1) := by decide +kernel
theorem dX5_stand_48 : decode cX5_stand 48 = .ok (.iconst (-1), 1) := by decide +kernel
theorem dX5_stand_49 : decode cX5_stand 49 = .ok (.putfield 87, 3) := by decide +kernel
theorem dX5_stand_52 : decode cX5_stand 52 = .ok (.aload_n 2, 1) := by decide +kernel
theorem dX5_stand_53 : decode cX5_stand 53 = .ok (.iconst (-1), 1) := by decide +kernel
theorem dX5_stand_54 : decode cX5_stand 54 = .ok (.putfield 90, 3) := by decide +kernel
theorem dX5_stand_57 : decode cX5_stand 57 = .ok (.iload_n 3, 1) := by decide +kernel
theorem dX5_stand_58 : decode cX5_stand 58 = .ok (.ireturn, 1) := by decide +kernel
theorem dX5_give_0 : decode cX5_give 0 = .ok (.aload_n 0, 1) := by decide +kernel
theorem dX5_give_1 : decode cX5_give 1 = .ok (.iload_n 1, 1) := by decide +kernel
theorem dX5_give_2 : decode cX5_give 2 = .ok (.invokevirtual 71, 3) := by decide +kernel
theorem dX5_give_5 : decode cX5_give 5 = .ok (.ifCond .eq 14, 3) := by decide +kernel
theorem dX5_give_8 : decode cX5_give 8 = .ok (.iload_n 2, 1) := by decide +kernel
theorem dX5_give_9 : decode cX5_give 9 = .ok (.iconst 1, 1) := by decide +kernel
theorem dX5_give_10 : decode cX5_give 10 = .ok (.sipush 9999, 3) := by decide +kernel
theorem dX5_give_13 : decode cX5_give 13 = .ok (.invokestatic 33, 3) := by decide +kernel
theorem dX5_give_16 : decode cX5_give 16 = .ok (.ifCond .ne 6, 3) := by decide +kernel
theorem dX5_give_19 : decode cX5_give 19 = .ok (.ldc 44, 2) := by decide +kernel
theorem dX5_give_21 : decode cX5_give 21 = .ok (.ireturn, 1) := by decide +kernel
theorem dX5_give_22 : decode cX5_give 22 = .ok (.aload_n 0, 1) := by decide +kernel
theorem dX5_give_23 : decode cX5_give 23 = .ok (.getfield 10, 3) := by decide +kernel
theorem dX5_give_26 : decode cX5_give 26 = .ok (.getfield 61, 3) := by decide +kernel
theorem dX5_give_29 : decode cX5_give 29 = .ok (.iload_n 1, 1) := by decide +kernel
theorem dX5_give_30 : decode cX5_give 30 = .ok (.aaload, 1) := by decide +kernel
theorem dX5_give_31 : decode cX5_give 31 = .ok (.astore_n 3, 1) := by decide +kernel
theorem dX5_give_32 : decode cX5_give 32 = .ok (.aload_n 3, 1) := by decide +kernel
theorem dX5_give_33 : decode cX5_give 33 = .ok (.getfield 96, 3) := by decide +kernel
theorem dX5_give_36 : decode cX5_give 36 = .ok (.iload_n 2, 1) := by decide +kernel
theorem dX5_give_37 : decode cX5_give 37 = .ok (.iadd, 1) := by decide +kernel
theorem dX5_give_38 : decode cX5_give 38 = .ok (.ldc 99, 2) := by decide +kernel
theorem dX5_give_40 : decode cX5_give 40 = .ok (.if_icmp .le 6, 3) := by decide +kernel
theorem dX5_give_43 : decode cX5_give 43 = .ok (.ldc 60, 2) := by decide +kernel
theorem dX5_give_45 : decode cX5_give 45 = .ok (.ireturn, 1) := by decide +kernel
theorem dX5_give_46 : decode cX5_give 46 = .ok (.aload_n 0, 1) := by decide +kernel
theorem dX5_give_47 : decode cX5_give 47 = .ok (.getfield 22, 3) := by decide +kernel
theorem dX5_give_50 : decode cX5_give 50 = .ok (.aload_n 0, 1) := by decide +kernel
theorem dX5_give_51 : decode cX5_give 51 = .ok (.getfield 10, 3) := by decide +kernel
theorem dX5_give_54 : decode cX5_give 54 = .ok (.invokevirtual 45, 3) := by decide +kernel
theorem dX5_give_57 : decode cX5_give 57 = .ok (.aload_n 3, 1) := by decide +kernel
theorem dX5_give_58 : decode cX5_give 58 = .ok (.dup, 1) := by decide +kernel
theorem dX5_give_59 : decode cX5_give 59 = .ok (.getfield 96, 3) := by decide +kernel
theorem dX5_give_62 : decode cX5_give 62 = .ok (.iload_n 2, 1) := by decide +kernel
theorem dX5_give_63 : decode cX5_give 63 = .ok (.iadd, 1) := by decide +kernel
theorem dX5_give_64 : decode cX5_give 64 = .ok (.putfield 96, 3) := by decide +kernel
theorem dX5_give_67 : decode cX5_give 67 = .ok (.aload_n 3, 1) := by decide +kernel
theorem dX5_give_68 : decode cX5_give 68 = .ok (.getfield 96, 3) := by decide +kernel
theorem dX5_give_71 : decode cX5_give 71 = .ok (.ireturn, 1) := by decide +kernel
theorem dX5_lend_0 : decode cX5_lend 0 = .ok (.aload_n 0, 1) := by decide +kernel
theorem dX5_lend_1 : decode cX5_lend 1 = .ok (.iload_n 1, 1) := by decide +kernel
theorem dX5_lend_2 : decode cX5_lend 2 = .ok (.invokevirtual 71, 3) := by decide +kernel
theorem dX5_lend_5 : decode cX5_lend 5 = .ok (.ifCond .eq 27, 3) := by decide +kernel
theorem dX5_lend_8 : decode cX5_lend 8 = .ok (.aload_n 0, 1) := by decide +kernel
theorem dX5_lend_9 : decode cX5_lend 9 = .ok (.iload_n 2, 1) := by decide +kernel
theorem dX5_lend_10 : decode cX5_lend 10 = .ok (.invokevirtual 71, 3) := by decide +kernel
theorem dX5_lend_13 : decode cX5_lend 13 = .ok (.ifCond .eq 19, 3) := by decide +kernel
theorem dX5_lend_16 : decode cX5_lend 16 = .ok (.iload_n 1, 1) := by decide +kernel
theorem dX5_lend_17 : decode cX5_lend 17 = .ok (.iload_n 2, 1) := by decide +kernel
theorem dX5_lend_18 : decode cX5_lend 18 = .ok (.if_icmp .eq 14, 3) := by decide +kernel
theorem dX5_lend_21 : decode cX5_lend 21 = .ok (.iload_n 3, 1) := by decide +kernel
theorem dX5_lend_22 : decode cX5_lend 22 = .ok (.iconst 1, 1) := by decide +kernel
theorem dX5_lend_23 : decode cX5_lend 23 = .ok (.sipush 9999, 3) := by decide +kernel
theorem dX5_lend_26 : decode cX5_lend 26 = .ok (.invokestatic 33, 3) := by decide +kernel
theorem dX5_lend_29 : decode cX5_lend 29 = .ok (.ifCond .ne 6, 3) := by decide +kernel
theorem dX5_lend_32 : decode cX5_lend 32 = .ok (.ldc 44, 2) := by decide +kernel
theorem dX5_lend_34 : decode cX5_lend 34 = .ok (.ireturn, 1) := by decide +kernel
theorem dX5_lend_35 : decode cX5_lend 35 = .ok (.aload_n 0, 1) := by decide +kernel
theorem dX5_lend_36 : decode cX5_lend 36 = .ok (.getfield 10, 3) := by decide +kernel
theorem dX5_lend_39 : decode cX5_lend 39 = .ok (.getfield 61, 3) := by decide +kernel
theorem dX5_lend_42 : decode cX5_lend 42 = .ok (.iload_n 1, 1) := by decide +kernel
theorem dX5_lend_43 : decode cX5_lend 43 = .ok (.aaload, 1) := by decide +kernel
theorem dX5_lend_44 : decode cX5_lend 44 = .ok (.getfield 96, 3) := by decide +kernel
theorem dX5_lend_47 : decode cX5_lend 47 = .ok (.iload_n 3, 1) := by decide +kernel
theorem dX5_lend_48 : decode cX5_lend 48 = .ok (.if_icmp .ge 6, 3) := by decide +kernel
theorem dX5_lend_51 : decode cX5_lend 51 = .ok (.ldc 83, 2) := by decide +kernel
theorem dX5_lend_53 : decode cX5_lend 53 = .ok (.ireturn, 1) := by decide +kernel
theorem dX5_lend_54 : decode cX5_lend 54 = .ok (.aload_n 0, 1) := by decide +kernel
theorem dX5_lend_55 : decode cX5_lend 55 = .ok (.getfield 10, 3) := by decide +kernel
theorem dX5_lend_58 : decode cX5_lend 58 = .ok (.getfield 100, 3) := by decide +kernel
theorem dX5_lend_61 : decode cX5_lend 61 = .ok (.bipush 8, 2) := by decide +kernel
theorem dX5_lend_63 : decode cX5_lend 63 = .ok (.if_icmp .lt 6, 3) := by decide +kernel
theorem dX5_lend_66 : decode cX5_lend 66 = .ok (.ldc 60, 2) := by decide +kernel
theorem dX5_lend_68 : decode cX5_lend 68 = .ok (.ireturn, 1) := by decide +kernel
theorem dX5_lend_69 : decode cX5_lend 69 = .ok (.aload_n 0, 1) := by decide +kernel
theorem dX5_lend_70 : decode cX5_lend 70 = .ok (.getfield 22, 3) := by decide +kernel
theorem dX5_lend_73 : decode cX5_lend 73 = .ok (.aload_n 0, 1) := by decide +kernel
theorem dX5_lend_74 : decode cX5_lend 74 = .ok (.getfield 10, 3) := by decide +kernel
theorem dX5_lend_77 : decode cX5_lend 77 = .ok (.invokevirtual 45, 3) := by decide +kernel
theorem dX5_lend_80 : decode cX5_lend 80 = .ok (.aload_n 0, 1) := by decide +kernel
theorem dX5_lend_81 : decode cX5_lend 81 = .ok (.getfield 10, 3) := by decide +kernel
theorem dX5_lend_84 : decode cX5_lend 84 = .ok (.iload_n 1, 1) := by decide +kernel
theorem dX5_lend_85 : decode cX5_lend 85 = .ok (.iload_n 2, 1) := by decide +kernel
theorem dX5_lend_86 : decode cX5_lend 86 = .ok (.iload_n 3, 1) := by decide +kernel
theorem dX5_lend_87 : decode cX5_lend 87 = .ok (.invokevirtual 103, 3) := by decide +kernel
theorem dX5_lend_90 : decode cX5_lend 90 = .ok (.ireturn, 1) := by decide +kernel
theorem dX5_branch_0 : decode cX5_branch 0 = .ok (.iload_n 1, 1) := by decide +kernel
theorem dX5_branch_1 : decode cX5_branch 1 = .ok (.invokestatic 107, 3) := by decide +kernel
theorem dX5_branch_4 : decode cX5_branch 4 = .ok (.ifCond .eq 12, 3) := by decide +kernel
theorem dX5_branch_7 : decode cX5_branch 7 = .ok (.iload_n 2, 1) := by decide +kernel
theorem dX5_branch_8 : decode cX5_branch 8 = .ok (.iconst 0, 1) := by decide +kernel
theorem dX5_branch_9 : decode cX5_branch 9 = .ok (.iconst 1, 1) := by decide +kernel
theorem dX5_branch_10 : decode cX5_branch 10 = .ok (.invokestatic 33, 3) := by decide +kernel
theorem dX5_branch_13 : decode cX5_branch 13 = .ok (.ifCond .ne 6, 3) := by decide +kernel
theorem dX5_branch_16 : decode cX5_branch 16 = .ok (.ldc 44, 2) := by decide +kernel
theorem dX5_branch_18 : decode cX5_branch 18 = .ok (.ireturn, 1) := by decide +kernel
theorem dX5_branch_19 : decode cX5_branch 19 = .ok (.aload_n 0, 1) := by decide +kernel
theorem dX5_branch_20 : decode cX5_branch 20 = .ok (.getfield 22, 3) := by decide +kernel
theorem dX5_branch_23 : decode cX5_branch 23 = .ok (.aload_n 0, 1) := by decide +kernel
theorem dX5_branch_24 : decode cX5_branch 24 = .ok (.getfield 10, 3) := by decide +kernel
theorem dX5_branch_27 : decode cX5_branch 27 = .ok (.invokevirtual 45, 3) := by decide +kernel
theorem dX5_branch_30 : decode cX5_branch 30 = .ok (.aload_n 0, 1) := by decide +kernel
theorem dX5_branch_31 : decode cX5_branch 31 = .ok (.getfield 10, 3) := by decide +kernel
theorem dX5_branch_34 : decode cX5_branch 34 = .ok (.iload_n 1, 1) := by decide +kernel
theorem dX5_branch_35 : decode cX5_branch 35 = .ok (.iload_n 2, 1) := by decide +kernel
theorem dX5_branch_36 : decode cX5_branch 36 = .ok (.invokevirtual 110, 3) := by decide +kernel
theorem dX5_branch_39 : decode cX5_branch 39 = .ok (.ireturn, 1) := by decide +kernel
theorem dX5_oracleOf_0 : decode cX5_oracleOf 0 = .ok (.aload_n 0, 1) := by decide +kernel
theorem dX5_oracleOf_1 : decode cX5_oracleOf 1 = .ok (.iload_n 1, 1) := by decide +kernel
theorem dX5_oracleOf_2 : decode cX5_oracleOf 2 = .ok (.invokevirtual 71, 3) := by decide +kernel
theorem dX5_oracleOf_5 : decode cX5_oracleOf 5 = .ok (.ifCond .eq 13, 3) := by decide +kernel
theorem dX5_oracleOf_8 : decode cX5_oracleOf 8 = .ok (.iload_n 2, 1) := by decide +kernel
theorem dX5_oracleOf_9 : decode cX5_oracleOf 9 = .ok (.iconst 0, 1) := by decide +kernel
theorem dX5_oracleOf_10 : decode cX5_oracleOf 10 = .ok (.bipush 10, 2) := by decide +kernel
theorem dX5_oracleOf_12 : decode cX5_oracleOf 12 = .ok (.invokestatic 33, 3) := by decide +kernel
theorem dX5_oracleOf_15 : decode cX5_oracleOf 15 = .ok (.ifCond .ne 6, 3) := by decide +kernel
theorem dX5_oracleOf_18 : decode cX5_oracleOf 18 = .ok (.ldc 44, 2) := by decide +kernel
theorem dX5_oracleOf_20 : decode cX5_oracleOf 20 = .ok (.ireturn, 1) := by decide +kernel
theorem dX5_oracleOf_21 : decode cX5_oracleOf 21 = .ok (.aload_n 0, 1) := by decide +kernel
theorem dX5_oracleOf_22 : decode cX5_oracleOf 22 = .ok (.getfield 10, 3) := by decide +kernel
theorem dX5_oracleOf_25 : decode cX5_oracleOf 25 = .ok (.getfield 61, 3) := by decide +kernel
theorem dX5_oracleOf_28 : decode cX5_oracleOf 28 = .ok (.iload_n 1, 1) := by decide +kernel
theorem dX5_oracleOf_29 : decode cX5_oracleOf 29 = .ok (.aaload, 1) := by decide +kernel
theorem dX5_oracleOf_30 : decode cX5_oracleOf 30 = .ok (.astore_n 3, 1) := by decide +kernel
theorem dX5_oracleOf_31 : decode cX5_oracleOf 31 = .ok (.iload_n 2, 1) := by decide +kernel
theorem dX5_oracleOf_32 : decode cX5_oracleOf 32 = .ok (.tableswitch 134 0 9 #[56, 61, 66, 71, 88, 105, 110, 115, 120, 125], 56) := by decide +kernel
theorem dX5_oracleOf_88 : decode cX5_oracleOf 88 = .ok (.aload_n 3, 1) := by decide +kernel
theorem dX5_oracleOf_89 : decode cX5_oracleOf 89 = .ok (.getfield 114, 3) := by decide +kernel
theorem dX5_oracleOf_92 : decode cX5_oracleOf 92 = .ok (.ireturn, 1) := by decide +kernel
theorem dX5_oracleOf_93 : decode cX5_oracleOf 93 = .ok (.aload_n 3, 1) := by decide +kernel
theorem dX5_oracleOf_94 : decode cX5_oracleOf 94 = .ok (.getfield 117, 3) := by decide +kernel
theorem dX5_oracleOf_97 : decode cX5_oracleOf 97 = .ok (.ireturn, 1) := by decide +kernel
theorem dX5_oracleOf_98 : decode cX5_oracleOf 98 = .ok (.aload_n 3, 1) := by decide +kernel
theorem dX5_oracleOf_99 : decode cX5_oracleOf 99 = .ok (.getfield 96, 3) := by decide +kernel
theorem dX5_oracleOf_102 : decode cX5_oracleOf 102 = .ok (.ireturn, 1) := by decide +kernel
theorem dX5_oracleOf_103 : decode cX5_oracleOf 103 = .ok (.aload_n 3, 1) := by decide +kernel
theorem dX5_oracleOf_104 : decode cX5_oracleOf 104 = .ok (.invokevirtual 75, 3) := by decide +kernel
theorem dX5_oracleOf_107 : decode cX5_oracleOf 107 = .ok (.ifCond .eq 10, 3) := by decide +kernel
theorem dX5_oracleOf_110 : decode cX5_oracleOf 110 = .ok (.aload_n 3, 1) := by decide +kernel
theorem dX5_oracleOf_111 : decode cX5_oracleOf 111 = .ok (.getfield 87, 3) := by decide +kernel
theorem dX5_oracleOf_114 : decode cX5_oracleOf 114 = .ok (.goto 5, 3) := by decide +kernel
theorem dX5_oracleOf_117 : decode cX5_oracleOf 117 = .ok (.ldc 120, 2) := by decide +kernel
theorem dX5_oracleOf_119 : decode cX5_oracleOf 119 = .ok (.ireturn, 1) := by decide +kernel
theorem dX5_oracleOf_120 : decode cX5_oracleOf 120 = .ok (.aload_n 3, 1) := by decide +kernel
theorem dX5_oracleOf_121 : decode cX5_oracleOf 121 = .ok (.invokevirtual 75, 3) := by decide +kernel
theorem dX5_oracleOf_124 : decode cX5_oracleOf 124 = .ok (.ifCond .eq 10, 3) := by decide +kernel
theorem dX5_oracleOf_127 : decode cX5_oracleOf 127 = .ok (.aload_n 3, 1) := by decide +kernel
theorem dX5_oracleOf_128 : decode cX5_oracleOf 128 = .ok (.getfield 90, 3) := by decide +kernel
theorem dX5_oracleOf_131 : decode cX5_oracleOf 131 = .ok (.goto 5, 3) := by decide +kernel
theorem dX5_oracleOf_134 : decode cX5_oracleOf 134 = .ok (.ldc 120, 2) := by decide +kernel
theorem dX5_oracleOf_136 : decode cX5_oracleOf 136 = .ok (.ireturn, 1) := by decide +kernel
theorem dX5_oracleOf_137 : decode cX5_oracleOf 137 = .ok (.aload_n 3, 1) := by decide +kernel
theorem dX5_oracleOf_138 : decode cX5_oracleOf 138 = .ok (.getfield 121, 3) := by decide +kernel
theorem dX5_oracleOf_141 : decode cX5_oracleOf 141 = .ok (.ireturn, 1) := by decide +kernel
theorem dX5_oracleOf_142 : decode cX5_oracleOf 142 = .ok (.aload_n 3, 1) := by decide +kernel
theorem dX5_oracleOf_143 : decode cX5_oracleOf 143 = .ok (.getfield 124, 3) := by decide +kernel
theorem dX5_oracleOf_146 : decode cX5_oracleOf 146 = .ok (.ireturn, 1) := by decide +kernel
theorem dX5_oracleOf_147 : decode cX5_oracleOf 147 = .ok (.aload_n 3, 1) := by decide +kernel
theorem dX5_oracleOf_148 : decode cX5_oracleOf 148 = .ok (.getfield 127, 3) := by decide +kernel
theorem dX5_oracleOf_151 : decode cX5_oracleOf 151 = .ok (.ireturn, 1) := by decide +kernel
theorem dX5_oracleOf_152 : decode cX5_oracleOf 152 = .ok (.aload_n 3, 1) := by decide +kernel
theorem dX5_oracleOf_153 : decode cX5_oracleOf 153 = .ok (.getfield 130, 3) := by decide +kernel
theorem dX5_oracleOf_156 : decode cX5_oracleOf 156 = .ok (.ireturn, 1) := by decide +kernel
theorem dX5_oracleOf_157 : decode cX5_oracleOf 157 = .ok (.aload_n 0, 1) := by decide +kernel
theorem dX5_oracleOf_158 : decode cX5_oracleOf 158 = .ok (.getfield 10, 3) := by decide +kernel
theorem dX5_oracleOf_161 : decode cX5_oracleOf 161 = .ok (.iload_n 1, 1) := by decide +kernel
theorem dX5_oracleOf_162 : decode cX5_oracleOf 162 = .ok (.invokevirtual 133, 3) := by decide +kernel
theorem dX5_oracleOf_165 : decode cX5_oracleOf 165 = .ok (.ireturn, 1) := by decide +kernel
theorem dX5_oracleOf_166 : decode cX5_oracleOf 166 = .ok (.aload_n 0, 1) := by decide +kernel
theorem dX5_oracleOf_167 : decode cX5_oracleOf 167 = .ok (.getfield 10, 3) := by decide +kernel
theorem dX5_oracleOf_170 : decode cX5_oracleOf 170 = .ok (.iload_n 1, 1) := by decide +kernel
theorem dX5_oracleOf_171 : decode cX5_oracleOf 171 = .ok (.invokevirtual 136, 3) := by decide +kernel
theorem dX5_oracleOf_174 : decode cX5_oracleOf 174 = .ok (.ireturn, 1) := by decide +kernel
theorem dX5_counter_0 : decode cX5_counter 0 = .ok (.aload_n 0, 1) := by decide +kernel
theorem dX5_counter_1 : decode cX5_counter 1 = .ok (.iload_n 1, 1) := by decide +kernel
theorem dX5_counter_2 : decode cX5_counter 2 = .ok (.invokevirtual 71, 3) := by decide +kernel
theorem dX5_counter_5 : decode cX5_counter 5 = .ok (.ifCond .eq 7, 3) := by decide +kernel
theorem dX5_counter_8 : decode cX5_counter 8 = .ok (.iload_n 2, 1) := by decide +kernel
theorem dX5_counter_9 : decode cX5_counter 9 = .ok (.ifCond .ge 6, 3) := by decide +kernel
theorem dX5_counter_12 : decode cX5_counter 12 = .ok (.ldc 44, 2) := by decide +kernel
theorem dX5_counter_14 : decode cX5_counter 14 = .ok (.ireturn, 1) := by decide +kernel
theorem dX5_counter_15 : decode cX5_counter 15 = .ok (.aload_n 0, 1) := by decide +kernel
theorem dX5_counter_16 : decode cX5_counter 16 = .ok (.getfield 10, 3) := by decide +kernel
theorem dX5_counter_19 : decode cX5_counter 19 = .ok (.getfield 61, 3) := by decide +kernel
theorem dX5_counter_22 : decode cX5_counter 22 = .ok (.iload_n 1, 1) := by decide +kernel
theorem dX5_counter_23 : decode cX5_counter 23 = .ok (.aaload, 1) := by decide +kernel
theorem dX5_counter_24 : decode cX5_counter 24 = .ok (.astore_n 3, 1) := by decide +kernel
theorem dX5_counter_25 : decode cX5_counter 25 = .ok (.iload_n 2, 1) := by decide +kernel
theorem dX5_counter_26 : decode cX5_counter 26 = .ok (.aload_n 3, 1) := by decide +kernel
theorem dX5_counter_27 : decode cX5_counter 27 = .ok (.invokevirtual 139, 3) := by decide +kernel
theorem dX5_counter_30 : decode cX5_counter 30 = .ok (.if_icmp .ge 12, 3) := by decide +kernel
theorem dX5_counter_33 : decode cX5_counter 33 = .ok (.aload_n 3, 1) := by decide +kernel
theorem dX5_counter_34 : decode cX5_counter 34 = .ok (.getfield 143, 3) := by decide +kernel
theorem dX5_counter_37 : decode cX5_counter 37 = .ok (.iload_n 2, 1) := by decide +kernel
theorem dX5_counter_38 : decode cX5_counter 38 = .ok (.iaload, 1) := by decide +kernel
theorem dX5_counter_39 : decode cX5_counter 39 = .ok (.goto 5, 3) := by decide +kernel
theorem dX5_counter_42 : decode cX5_counter 42 = .ok (.ldc 120, 2) := by decide +kernel
theorem dX5_counter_44 : decode cX5_counter 44 = .ok (.ireturn, 1) := by decide +kernel
theorem dX5_loanOf_0 : decode cX5_loanOf 0 = .ok (.iload_n 1, 1) := by decide +kernel
theorem dX5_loanOf_1 : decode cX5_loanOf 1 = .ok (.iconst 0, 1) := by decide +kernel
theorem dX5_loanOf_2 : decode cX5_loanOf 2 = .ok (.aload_n 0, 1) := by decide +kernel
theorem dX5_loanOf_3 : decode cX5_loanOf 3 = .ok (.getfield 10, 3) := by decide +kernel
theorem dX5_loanOf_6 : decode cX5_loanOf 6 = .ok (.getfield 100, 3) := by decide +kernel
theorem dX5_loanOf_9 : decode cX5_loanOf 9 = .ok (.iconst 1, 1) := by decide +kernel
theorem dX5_loanOf_10 : decode cX5_loanOf 10 = .ok (.isub, 1) := by decide +kernel
theorem dX5_loanOf_11 : decode cX5_loanOf 11 = .ok (.invokestatic 33, 3) := by decide +kernel
theorem dX5_loanOf_14 : decode cX5_loanOf 14 = .ok (.ifCond .eq 12, 3) := by decide +kernel
theorem dX5_loanOf_17 : decode cX5_loanOf 17 = .ok (.iload_n 2, 1) := by decide +kernel
theorem dX5_loanOf_18 : decode cX5_loanOf 18 = .ok (.iconst 0, 1) := by decide +kernel
theorem dX5_loanOf_19 : decode cX5_loanOf 19 = .ok (.iconst 2, 1) := by decide +kernel
theorem dX5_loanOf_20 : decode cX5_loanOf 20 = .ok (.invokestatic 33, 3) := by decide +kernel
theorem dX5_loanOf_23 : decode cX5_loanOf 23 = .ok (.ifCond .ne 6, 3) := by decide +kernel
theorem dX5_loanOf_26 : decode cX5_loanOf 26 = .ok (.ldc 44, 2) := by decide +kernel
theorem dX5_loanOf_28 : decode cX5_loanOf 28 = .ok (.ireturn, 1) := by decide +kernel
theorem dX5_loanOf_29 : decode cX5_loanOf 29 = .ok (.aload_n 0, 1) := by decide +kernel
theorem dX5_loanOf_30 : decode cX5_loanOf 30 = .ok (.getfield 10, 3) := by decide +kernel
theorem dX5_loanOf_33 : decode cX5_loanOf 33 = .ok (.getfield 146, 3) := by decide +kernel
theorem dX5_loanOf_36 : decode cX5_loanOf 36 = .ok (.iload_n 1, 1) := by decide +kernel
theorem dX5_loanOf_37 : decode cX5_loanOf 37 = .ok (.aaload, 1) := by decide +kernel
theorem dX5_loanOf_38 : decode cX5_loanOf 38 = .ok (.astore_n 3, 1) := by decide +kernel
theorem dX5_loanOf_39 : decode cX5_loanOf 39 = .ok (.iload_n 2, 1) := by decide +kernel
theorem dX5_loanOf_40 : decode cX5_loanOf 40 = .ok (.lookupswitch 38 #[(0, 28), (1, 33)], 28) := by decide +kernel
theorem dX5_loanOf_68 : decode cX5_loanOf 68 = .ok (.aload_n 3, 1) := by decide +kernel
theorem dX5_loanOf_69 : decode cX5_loanOf 69 = .ok (.getfield 150, 3) := by decide +kernel
theorem dX5_loanOf_72 : decode cX5_loanOf 72 = .ok (.ireturn, 1) := by decide +kernel
theorem dX5_loanOf_73 : decode cX5_loanOf 73 = .ok (.aload_n 3, 1) := by decide +kernel
theorem dX5_loanOf_74 : decode cX5_loanOf 74 = .ok (.getfield 155, 3) := by decide +kernel
theorem dX5_loanOf_77 : decode cX5_loanOf 77 = .ok (.ireturn, 1) := by decide +kernel
theorem dX5_loanOf_78 : decode cX5_loanOf 78 = .ok (.aload_n 3, 1) := by decide +kernel
theorem dX5_loanOf_79 : decode cX5_loanOf 79 = .ok (.getfield 158, 3) := by decide +kernel
theorem dX5_loanOf_82 : decode cX5_loanOf 82 = .ok (.ireturn, 1) := by decide +kernel
theorem dX5_share_0 : decode cX5_share 0 = .ok (.aload_n 0, 1) := by decide +kernel
theorem dX5_share_1 : decode cX5_share 1 = .ok (.iload_n 1, 1) := by decide +kernel
theorem dX5_share_2 : decode cX5_share 2 = .ok (.invokevirtual 71, 3) := by decide +kernel
theorem dX5_share_5 : decode cX5_share 5 = .ok (.ifCond .ne 6, 3) := by decide +kernel
theorem dX5_share_8 : decode cX5_share 8 = .ok (.ldc 44, 2) := by decide +kernel
theorem dX5_share_10 : decode cX5_share 10 = .ok (.ireturn, 1) := by decide +kernel
theorem dX5_share_11 : decode cX5_share 11 = .ok (.aload_n 0, 1) := by decide +kernel
theorem dX5_share_12 : decode cX5_share 12 = .ok (.getfield 10, 3) := by decide +kernel
theorem dX5_share_15 : decode cX5_share 15 = .ok (.getfield 61, 3) := by decide +kernel
theorem dX5_share_18 : decode cX5_share 18 = .ok (.iload_n 1, 1) := by decide +kernel
theorem dX5_share_19 : decode cX5_share 19 = .ok (.aaload, 1) := by decide +kernel
theorem dX5_share_20 : decode cX5_share 20 = .ok (.astore_n 2, 1) := by decide +kernel
theorem dX5_share_21 : decode cX5_share 21 = .ok (.aload_n 2, 1) := by decide +kernel
theorem dX5_share_22 : decode cX5_share 22 = .ok (.getfield 121, 3) := by decide +kernel
theorem dX5_share_25 : decode cX5_share 25 = .ok (.aload_n 2, 1) := by decide +kernel
theorem dX5_share_26 : decode cX5_share 26 = .ok (.getfield 124, 3) := by decide +kernel
theorem dX5_share_29 : decode cX5_share 29 = .ok (.iadd, 1) := by decide +kernel
theorem dX5_share_30 : decode cX5_share 30 = .ok (.istore_n 3, 1) := by decide +kernel
theorem dX5_share_31 : decode cX5_share 31 = .ok (.iload_n 3, 1) := by decide +kernel
theorem dX5_share_32 : decode cX5_share 32 = .ok (.ifCond .le 14, 3) := by decide +kernel
theorem dX5_share_35 : decode cX5_share 35 = .ok (.aload_n 2, 1) := by decide +kernel
theorem dX5_share_36 : decode cX5_share 36 = .ok (.getfield 121, 3) := by decide +kernel
theorem dX5_share_39 : decode cX5_share 39 = .ok (.iload_n 3, 1) := by decide +kernel
theorem dX5_share_40 : decode cX5_share 40 = .ok (.invokestatic 173, 3) := by decide +kernel
theorem dX5_share_43 : decode cX5_share 43 = .ok (.goto 5, 3) := by decide +kernel
theorem dX5_share_46 : decode cX5_share 46 = .ok (.ldc 120, 2) := by decide +kernel
theorem dX5_share_48 : decode cX5_share 48 = .ok (.ireturn, 1) := by decide +kernel
theorem dX5_rich_0 : decode cX5_rich 0 = .ok (.iload_n 1, 1) := by decide +kernel
theorem dX5_rich_1 : decode cX5_rich 1 = .ok (.ifCond .ge 6, 3) := by decide +kernel
theorem dX5_rich_4 : decode cX5_rich 4 = .ok (.ldc 44, 2) := by decide +kernel
theorem dX5_rich_6 : decode cX5_rich 6 = .ok (.ireturn, 1) := by decide +kernel
theorem dX5_rich_7 : decode cX5_rich 7 = .ok (.iconst 0, 1) := by decide +kernel
theorem dX5_rich_8 : decode cX5_rich 8 = .ok (.istore_n 2, 1) := by decide +kernel
theorem dX5_rich_9 : decode cX5_rich 9 = .ok (.iload_n 2, 1) := by decide +kernel
theorem dX5_rich_10 : decode cX5_rich 10 = .ok (.aload_n 0, 1) := by decide +kernel
theorem dX5_rich_11 : decode cX5_rich 11 = .ok (.getfield 10, 3) := by decide +kernel
theorem dX5_rich_14 : decode cX5_rich 14 = .ok (.getfield 56, 3) := by decide +kernel
theorem dX5_rich_17 : decode cX5_rich 17 = .ok (.if_icmp .ge 23, 3) := by decide +kernel
theorem dX5_rich_20 : decode cX5_rich 20 = .ok (.aload_n 0, 1) := by decide +kernel
theorem dX5_rich_21 : decode cX5_rich 21 = .ok (.getfield 10, 3) := by decide +kernel
theorem dX5_rich_24 : decode cX5_rich 24 = .ok (.iload_n 2, 1) := by decide +kernel
theorem dX5_rich_25 : decode cX5_rich 25 = .ok (.invokevirtual 176, 3) := by decide +kernel
theorem dX5_rich_28 : decode cX5_rich 28 = .ok (.iload_n 1, 1) := by decide +kernel
theorem dX5_rich_29 : decode cX5_rich 29 = .ok (.if_icmp .ne 5, 3) := by decide +kernel
theorem dX5_rich_32 : decode cX5_rich 32 = .ok (.iload_n 2, 1) := by decide +kernel
theorem dX5_rich_33 : decode cX5_rich 33 = .ok (.ireturn, 1) := by decide +kernel
theorem dX5_rich_34 : decode cX5_rich 34 = .ok (.iinc 2 1, 3) := by decide +kernel
theorem dX5_rich_37 : decode cX5_rich 37 = .ok (.goto (-28), 3) := by decide +kernel
theorem dX5_rich_40 : decode cX5_rich 40 = .ok (.ldc 120, 2) := by decide +kernel
theorem dX5_rich_42 : decode cX5_rich 42 = .ok (.ireturn, 1) := by decide +kernel
theorem dX5_says_0 : decode cX5_says 0 = .ok (.aload_n 0, 1) := by decide +kernel
theorem dX5_says_1 : decode cX5_says 1 = .ok (.iload_n 1, 1) := by decide +kernel
theorem dX5_says_2 : decode cX5_says 2 = .ok (.invokevirtual 71, 3) := by decide +kernel
theorem dX5_says_5 : decode cX5_says 5 = .ok (.ifCond .eq 10, 3) := by decide +kernel
theorem dX5_says_8 : decode cX5_says 8 = .ok (.iload_n 2, 1) := by decide +kernel
theorem dX5_says_9 : decode cX5_says 9 = .ok (.invokestatic 107, 3) := by decide +kernel
theorem dX5_says_12 : decode cX5_says 12 = .ok (.ifCond .ne 6, 3) := by decide +kernel
theorem dX5_says_15 : decode cX5_says 15 = .ok (.ldc 44, 2) := by decide +kernel
theorem dX5_says_17 : decode cX5_says 17 = .ok (.ireturn, 1) := by decide +kernel
theorem dX5_says_18 : decode cX5_says 18 = .ok (.aload_n 0, 1) := by decide +kernel
theorem dX5_says_19 : decode cX5_says 19 = .ok (.getfield 10, 3) := by decide +kernel
theorem dX5_says_22 : decode cX5_says 22 = .ok (.iload_n 2, 1) := by decide +kernel
theorem dX5_says_23 : decode cX5_says 23 = .ok (.invokevirtual 179, 3) := by decide +kernel
theorem dX5_says_26 : decode cX5_says 26 = .ok (.aload_n 0, 1) := by decide +kernel
theorem dX5_says_27 : decode cX5_says 27 = .ok (.getfield 10, 3) := by decide +kernel
theorem dX5_says_30 : decode cX5_says 30 = .ok (.getfield 61, 3) := by decide +kernel
theorem dX5_says_33 : decode cX5_says 33 = .ok (.iload_n 1, 1) := by decide +kernel
theorem dX5_says_34 : decode cX5_says 34 = .ok (.aaload, 1) := by decide +kernel
theorem dX5_says_35 : decode cX5_says 35 = .ok (.getfield 183, 3) := by decide +kernel
theorem dX5_says_38 : decode cX5_says 38 = .ok (.ireturn, 1) := by decide +kernel
theorem dX5_stake_0 : decode cX5_stake 0 = .ok (.aload_n 0, 1) := by decide +kernel
theorem dX5_stake_1 : decode cX5_stake 1 = .ok (.iload_n 1, 1) := by decide +kernel
theorem dX5_stake_2 : decode cX5_stake 2 = .ok (.invokevirtual 71, 3) := by decide +kernel
theorem dX5_stake_5 : decode cX5_stake 5 = .ok (.ifCond .eq 10, 3) := by decide +kernel
theorem dX5_stake_8 : decode cX5_stake 8 = .ok (.iload_n 2, 1) := by decide +kernel
theorem dX5_stake_9 : decode cX5_stake 9 = .ok (.invokestatic 107, 3) := by decide +kernel
theorem dX5_stake_12 : decode cX5_stake 12 = .ok (.ifCond .ne 6, 3) := by decide +kernel
theorem dX5_stake_15 : decode cX5_stake 15 = .ok (.ldc 44, 2) := by decide +kernel
theorem dX5_stake_17 : decode cX5_stake 17 = .ok (.ireturn, 1) := by decide +kernel
theorem dX5_stake_18 : decode cX5_stake 18 = .ok (.aload_n 0, 1) := by decide +kernel
theorem dX5_stake_19 : decode cX5_stake 19 = .ok (.getfield 10, 3) := by decide +kernel
theorem dX5_stake_22 : decode cX5_stake 22 = .ok (.iload_n 2, 1) := by decide +kernel
theorem dX5_stake_23 : decode cX5_stake 23 = .ok (.invokevirtual 179, 3) := by decide +kernel
theorem dX5_stake_26 : decode cX5_stake 26 = .ok (.aload_n 0, 1) := by decide +kernel
theorem dX5_stake_27 : decode cX5_stake 27 = .ok (.getfield 10, 3) := by decide +kernel
theorem dX5_stake_30 : decode cX5_stake 30 = .ok (.getfield 61, 3) := by decide +kernel
theorem dX5_stake_33 : decode cX5_stake 33 = .ok (.iload_n 1, 1) := by decide +kernel
theorem dX5_stake_34 : decode cX5_stake 34 = .ok (.aaload, 1) := by decide +kernel
theorem dX5_stake_35 : decode cX5_stake 35 = .ok (.getfield 186, 3) := by decide +kernel
theorem dX5_stake_38 : decode cX5_stake 38 = .ok (.ireturn, 1) := by decide +kernel
theorem dX5_odds_0 : decode cX5_odds 0 = .ok (.iload_n 1, 1) := by decide +kernel
theorem dX5_odds_1 : decode cX5_odds 1 = .ok (.invokestatic 107, 3) := by decide +kernel
theorem dX5_odds_4 : decode cX5_odds 4 = .ok (.ifCond .ne 6, 3) := by decide +kernel
theorem dX5_odds_7 : decode cX5_odds 7 = .ok (.ldc 44, 2) := by decide +kernel
theorem dX5_odds_9 : decode cX5_odds 9 = .ok (.ireturn, 1) := by decide +kernel
theorem dX5_odds_10 : decode cX5_odds 10 = .ok (.aload_n 0, 1) := by decide +kernel
theorem dX5_odds_11 : decode cX5_odds 11 = .ok (.getfield 10, 3) := by decide +kernel
theorem dX5_odds_14 : decode cX5_odds 14 = .ok (.iload_n 1, 1) := by decide +kernel
theorem dX5_odds_15 : decode cX5_odds 15 = .ok (.invokevirtual 179, 3) := by decide +kernel
theorem dX5_odds_18 : decode cX5_odds 18 = .ok (.aload_n 0, 1) := by decide +kernel
theorem dX5_odds_19 : decode cX5_odds 19 = .ok (.getfield 10, 3) := by decide +kernel
theorem dX5_odds_22 : decode cX5_odds 22 = .ok (.iconst 1, 1) := by decide +kernel
theorem dX5_odds_23 : decode cX5_odds 23 = .ok (.invokevirtual 189, 3) := by decide +kernel
theorem dX5_odds_26 : decode cX5_odds 26 = .ok (.istore_n 2, 1) := by decide +kernel
theorem dX5_odds_27 : decode cX5_odds 27 = .ok (.iload_n 2, 1) := by decide +kernel
theorem dX5_odds_28 : decode cX5_odds 28 = .ok (.aload_n 0, 1) := by decide +kernel
theorem dX5_odds_29 : decode cX5_odds 29 = .ok (.getfield 10, 3) := by decide +kernel
theorem dX5_odds_32 : decode cX5_odds 32 = .ok (.iconst 0, 1) := by decide +kernel
theorem dX5_odds_33 : decode cX5_odds 33 = .ok (.invokevirtual 189, 3) := by decide +kernel
theorem dX5_odds_36 : decode cX5_odds 36 = .ok (.iadd, 1) := by decide +kernel
theorem dX5_odds_37 : decode cX5_odds 37 = .ok (.istore_n 3, 1) := by decide +kernel
theorem dX5_odds_38 : decode cX5_odds 38 = .ok (.iload_n 3, 1) := by decide +kernel
theorem dX5_odds_39 : decode cX5_odds 39 = .ok (.ifCond .le 11, 3) := by decide +kernel
theorem dX5_odds_42 : decode cX5_odds 42 = .ok (.iload_n 2, 1) := by decide +kernel
theorem dX5_odds_43 : decode cX5_odds 43 = .ok (.iload_n 3, 1) := by decide +kernel
theorem dX5_odds_44 : decode cX5_odds 44 = .ok (.invokestatic 173, 3) := by decide +kernel
theorem dX5_odds_47 : decode cX5_odds 47 = .ok (.goto 5, 3) := by decide +kernel
theorem dX5_odds_50 : decode cX5_odds 50 = .ok (.ldc 120, 2) := by decide +kernel
theorem dX5_odds_52 : decode cX5_odds 52 = .ok (.ireturn, 1) := by decide +kernel
theorem dX5_gain_0 : decode cX5_gain 0 = .ok (.aload_n 0, 1) := by decide +kernel
theorem dX5_gain_1 : decode cX5_gain 1 = .ok (.iload_n 1, 1) := by decide +kernel
theorem dX5_gain_2 : decode cX5_gain 2 = .ok (.invokevirtual 71, 3) := by decide +kernel
theorem dX5_gain_5 : decode cX5_gain 5 = .ok (.ifCond .eq 19, 3) := by decide +kernel
theorem dX5_gain_8 : decode cX5_gain 8 = .ok (.iload_n 2, 1) := by decide +kernel
theorem dX5_gain_9 : decode cX5_gain 9 = .ok (.invokestatic 107, 3) := by decide +kernel
theorem dX5_gain_12 : decode cX5_gain 12 = .ok (.ifCond .eq 12, 3) := by decide +kernel
theorem dX5_gain_15 : decode cX5_gain 15 = .ok (.iload_n 3, 1) := by decide +kernel
theorem dX5_gain_16 : decode cX5_gain 16 = .ok (.iconst 0, 1) := by decide +kernel
theorem dX5_gain_17 : decode cX5_gain 17 = .ok (.iconst 1, 1) := by decide +kernel
theorem dX5_gain_18 : decode cX5_gain 18 = .ok (.invokestatic 33, 3) := by decide +kernel
theorem dX5_gain_21 : decode cX5_gain 21 = .ok (.ifCond .ne 6, 3) := by decide +kernel
theorem dX5_gain_24 : decode cX5_gain 24 = .ok (.ldc 44, 2) := by decide +kernel
theorem dX5_gain_26 : decode cX5_gain 26 = .ok (.ireturn, 1) := by decide +kernel
theorem dX5_gain_27 : decode cX5_gain 27 = .ok (.aload_n 0, 1) := by decide +kernel
theorem dX5_gain_28 : decode cX5_gain 28 = .ok (.getfield 16, 3) := by decide +kernel
theorem dX5_gain_31 : decode cX5_gain 31 = .ok (.aload_n 0, 1) := by decide +kernel
theorem dX5_gain_32 : decode cX5_gain 32 = .ok (.getfield 10, 3) := by decide +kernel
theorem dX5_gain_35 : decode cX5_gain 35 = .ok (.invokevirtual 192, 3) := by decide +kernel
theorem dX5_gain_38 : decode cX5_gain 38 = .ok (.aload_n 0, 1) := by decide +kernel
theorem dX5_gain_39 : decode cX5_gain 39 = .ok (.getfield 16, 3) := by decide +kernel
theorem dX5_gain_42 : decode cX5_gain 42 = .ok (.iload_n 2, 1) := by decide +kernel
theorem dX5_gain_43 : decode cX5_gain 43 = .ok (.iload_n 3, 1) := by decide +kernel
theorem dX5_gain_44 : decode cX5_gain 44 = .ok (.invokevirtual 110, 3) := by decide +kernel
theorem dX5_gain_47 : decode cX5_gain 47 = .ok (.pop, 1) := by decide +kernel
theorem dX5_gain_48 : decode cX5_gain 48 = .ok (.aload_n 0, 1) := by decide +kernel
theorem dX5_gain_49 : decode cX5_gain 49 = .ok (.getfield 16, 3) := by decide +kernel
theorem dX5_gain_52 : decode cX5_gain 52 = .ok (.getfield 61, 3) := by decide +kernel
theorem dX5_gain_55 : decode cX5_gain 55 = .ok (.iload_n 1, 1) := by decide +kernel
theorem dX5_gain_56 : decode cX5_gain 56 = .ok (.aaload, 1) := by decide +kernel
theorem dX5_gain_57 : decode cX5_gain 57 = .ok (.getfield 96, 3) := by decide +kernel
theorem dX5_gain_60 : decode cX5_gain 60 = .ok (.aload_n 0, 1) := by decide +kernel
theorem dX5_gain_61 : decode cX5_gain 61 = .ok (.getfield 10, 3) := by decide +kernel
theorem dX5_gain_64 : decode cX5_gain 64 = .ok (.getfield 61, 3) := by decide +kernel
theorem dX5_gain_67 : decode cX5_gain 67 = .ok (.iload_n 1, 1) := by decide +kernel
theorem dX5_gain_68 : decode cX5_gain 68 = .ok (.aaload, 1) := by decide +kernel
theorem dX5_gain_69 : decode cX5_gain 69 = .ok (.getfield 96, 3) := by decide +kernel
theorem dX5_gain_72 : decode cX5_gain 72 = .ok (.isub, 1) := by decide +kernel
theorem dX5_gain_73 : decode cX5_gain 73 = .ok (.ireturn, 1) := by decide +kernel
theorem dX5_doom_0 : decode cX5_doom 0 = .ok (.aload_n 0, 1) := by decide +kernel
theorem dX5_doom_1 : decode cX5_doom 1 = .ok (.iload_n 1, 1) := by decide +kernel
theorem dX5_doom_2 : decode cX5_doom 2 = .ok (.invokevirtual 71, 3) := by decide +kernel
theorem dX5_doom_5 : decode cX5_doom 5 = .ok (.ifCond .eq 19, 3) := by decide +kernel
theorem dX5_doom_8 : decode cX5_doom 8 = .ok (.iload_n 2, 1) := by decide +kernel
theorem dX5_doom_9 : decode cX5_doom 9 = .ok (.invokestatic 107, 3) := by decide +kernel
theorem dX5_doom_12 : decode cX5_doom 12 = .ok (.ifCond .eq 12, 3) := by decide +kernel
theorem dX5_doom_15 : decode cX5_doom 15 = .ok (.iload_n 3, 1) := by decide +kernel
theorem dX5_doom_16 : decode cX5_doom 16 = .ok (.iconst 0, 1) := by decide +kernel
theorem dX5_doom_17 : decode cX5_doom 17 = .ok (.iconst 1, 1) := by decide +kernel
theorem dX5_doom_18 : decode cX5_doom 18 = .ok (.invokestatic 33, 3) := by decide +kernel
theorem dX5_doom_21 : decode cX5_doom 21 = .ok (.ifCond .ne 6, 3) := by decide +kernel
theorem dX5_doom_24 : decode cX5_doom 24 = .ok (.ldc 44, 2) := by decide +kernel
theorem dX5_doom_26 : decode cX5_doom 26 = .ok (.ireturn, 1) := by decide +kernel
theorem dX5_doom_27 : decode cX5_doom 27 = .ok (.aload_n 0, 1) := by decide +kernel
theorem dX5_doom_28 : decode cX5_doom 28 = .ok (.getfield 16, 3) := by decide +kernel
theorem dX5_doom_31 : decode cX5_doom 31 = .ok (.aload_n 0, 1) := by decide +kernel
theorem dX5_doom_32 : decode cX5_doom 32 = .ok (.getfield 10, 3) := by decide +kernel
theorem dX5_doom_35 : decode cX5_doom 35 = .ok (.invokevirtual 192, 3) := by decide +kernel
theorem dX5_doom_38 : decode cX5_doom 38 = .ok (.aload_n 0, 1) := by decide +kernel
theorem dX5_doom_39 : decode cX5_doom 39 = .ok (.getfield 16, 3) := by decide +kernel
theorem dX5_doom_42 : decode cX5_doom 42 = .ok (.getfield 61, 3) := by decide +kernel
theorem dX5_doom_45 : decode cX5_doom 45 = .ok (.iload_n 1, 1) := by decide +kernel
theorem dX5_doom_46 : decode cX5_doom 46 = .ok (.aaload, 1) := by decide +kernel
theorem dX5_doom_47 : decode cX5_doom 47 = .ok (.astore 4, 2) := by decide +kernel
theorem dX5_doom_49 : decode cX5_doom 49 = .ok (.iconst 0, 1) := by decide +kernel
theorem dX5_doom_50 : decode cX5_doom 50 = .ok (.istore 5, 2) := by decide +kernel
theorem dX5_doom_52 : decode cX5_doom 52 = .ok (.iload 5, 2) := by decide +kernel
theorem dX5_doom_54 : decode cX5_doom 54 = .ok (.bipush 100, 2) := by decide +kernel
theorem dX5_doom_56 : decode cX5_doom 56 = .ok (.if_icmp .ge 30, 3) := by decide +kernel
theorem dX5_doom_59 : decode cX5_doom 59 = .ok (.aload 4, 2) := by decide +kernel
theorem dX5_doom_61 : decode cX5_doom 61 = .ok (.invokevirtual 195, 3) := by decide +kernel
theorem dX5_doom_64 : decode cX5_doom 64 = .ok (.ifCond .eq 6, 3) := by decide +kernel
theorem dX5_doom_67 : decode cX5_doom 67 = .ok (.iload 5, 2) := by decide +kernel
theorem dX5_doom_69 : decode cX5_doom 69 = .ok (.ireturn, 1) := by decide +kernel
theorem dX5_doom_70 : decode cX5_doom 70 = .ok (.aload_n 0, 1) := by decide +kernel
theorem dX5_doom_71 : decode cX5_doom 71 = .ok (.getfield 16, 3) := by decide +kernel
theorem dX5_doom_74 : decode cX5_doom 74 = .ok (.iload_n 2, 1) := by decide +kernel
theorem dX5_doom_75 : decode cX5_doom 75 = .ok (.iload_n 3, 1) := by decide +kernel
theorem dX5_doom_76 : decode cX5_doom 76 = .ok (.invokevirtual 110, 3) := by decide +kernel
theorem dX5_doom_79 : decode cX5_doom 79 = .ok (.pop, 1) := by decide +kernel
theorem dX5_doom_80 : decode cX5_doom 80 = .ok (.iinc 5 1, 3) := by decide +kernel
theorem dX5_doom_83 : decode cX5_doom 83 = .ok (.goto (-31), 3) := by decide +kernel
theorem dX5_doom_86 : decode cX5_doom 86 = .ok (.aload 4, 2) := by decide +kernel
theorem dX5_doom_88 : decode cX5_doom 88 = .ok (.invokevirtual 195, 3) := by decide +kernel
theorem dX5_doom_91 : decode cX5_doom 91 = .ok (.ifCond .eq 8, 3) := by decide +kernel
theorem dX5_doom_94 : decode cX5_doom 94 = .ok (.bipush 100, 2) := by decide +kernel
theorem dX5_doom_96 : decode cX5_doom 96 = .ok (.goto 5, 3) := by decide +kernel
theorem dX5_doom_99 : decode cX5_doom 99 = .ok (.ldc 120, 2) := by decide +kernel
theorem dX5_doom_101 : decode cX5_doom 101 = .ok (.ireturn, 1) := by decide +kernel
theorem dX5_bestRow_0 : decode cX5_bestRow 0 = .ok (.aload_n 0, 1) := by decide +kernel
theorem dX5_bestRow_1 : decode cX5_bestRow 1 = .ok (.iload_n 1, 1) := by decide +kernel
theorem dX5_bestRow_2 : decode cX5_bestRow 2 = .ok (.invokevirtual 71, 3) := by decide +kernel
theorem dX5_bestRow_5 : decode cX5_bestRow 5 = .ok (.ifCond .eq 29, 3) := by decide +kernel
theorem dX5_bestRow_8 : decode cX5_bestRow 8 = .ok (.iload_n 2, 1) := by decide +kernel
theorem dX5_bestRow_9 : decode cX5_bestRow 9 = .ok (.invokestatic 107, 3) := by decide +kernel
theorem dX5_bestRow_12 : decode cX5_bestRow 12 = .ok (.ifCond .eq 22, 3) := by decide +kernel
theorem dX5_bestRow_15 : decode cX5_bestRow 15 = .ok (.iload_n 3, 1) := by decide +kernel
theorem dX5_bestRow_16 : decode cX5_bestRow 16 = .ok (.iconst 1, 1) := by decide +kernel
theorem dX5_bestRow_17 : decode cX5_bestRow 17 = .ok (.iconst 5, 1) := by decide +kernel
theorem dX5_bestRow_18 : decode cX5_bestRow 18 = .ok (.invokestatic 33, 3) := by decide +kernel
theorem dX5_bestRow_21 : decode cX5_bestRow 21 = .ok (.ifCond .eq 13, 3) := by decide +kernel
theorem dX5_bestRow_24 : decode cX5_bestRow 24 = .ok (.iload 4, 2) := by decide +kernel
theorem dX5_bestRow_26 : decode cX5_bestRow 26 = .ok (.iconst 0, 1) := by decide +kernel
theorem dX5_bestRow_27 : decode cX5_bestRow 27 = .ok (.iconst 1, 1) := by decide +kernel
theorem dX5_bestRow_28 : decode cX5_bestRow 28 = .ok (.invokestatic 33, 3) := by decide +kernel
theorem dX5_bestRow_31 : decode cX5_bestRow 31 = .ok (.ifCond .ne 6, 3) := by decide +kernel
theorem dX5_bestRow_34 : decode cX5_bestRow 34 = .ok (.ldc 44, 2) := by decide +kernel
theorem dX5_bestRow_36 : decode cX5_bestRow 36 = .ok (.ireturn, 1) := by decide +kernel
theorem dX5_bestRow_37 : decode cX5_bestRow 37 = .ok (.iconst 0, 1) := by decide +kernel
theorem dX5_bestRow_38 : decode cX5_bestRow 38 = .ok (.istore 5, 2) := by decide +kernel
theorem dX5_bestRow_40 : decode cX5_bestRow 40 = .ok (.iconst (-1), 1) := by decide +kernel
theorem dX5_bestRow_41 : decode cX5_bestRow 41 = .ok (.istore 6, 2) := by decide +kernel
theorem dX5_bestRow_43 : decode cX5_bestRow 43 = .ok (.iconst 0, 1) := by decide +kernel
theorem dX5_bestRow_44 : decode cX5_bestRow 44 = .ok (.istore 7, 2) := by decide +kernel
theorem dX5_bestRow_46 : decode cX5_bestRow 46 = .ok (.iload 7, 2) := by decide +kernel
theorem dX5_bestRow_48 : decode cX5_bestRow 48 = .ok (.iconst 1, 1) := by decide +kernel
theorem dX5_bestRow_49 : decode cX5_bestRow 49 = .ok (.iload_n 3, 1) := by decide +kernel
theorem dX5_bestRow_50 : decode cX5_bestRow 50 = .ok (.ishl, 1) := by decide +kernel
theorem dX5_bestRow_51 : decode cX5_bestRow 51 = .ok (.if_icmp .ge 35, 3) := by decide +kernel
theorem dX5_bestRow_54 : decode cX5_bestRow 54 = .ok (.aload_n 0, 1) := by decide +kernel
theorem dX5_bestRow_55 : decode cX5_bestRow 55 = .ok (.iload 7, 2) := by decide +kernel
theorem dX5_bestRow_57 : decode cX5_bestRow 57 = .ok (.iload_n 1, 1) := by decide +kernel
theorem dX5_bestRow_58 : decode cX5_bestRow 58 = .ok (.iload_n 2, 1) := by decide +kernel
theorem dX5_bestRow_59 : decode cX5_bestRow 59 = .ok (.iload_n 3, 1) := by decide +kernel
theorem dX5_bestRow_60 : decode cX5_bestRow 60 = .ok (.invokevirtual 198, 3) := by decide +kernel
theorem dX5_bestRow_63 : decode cX5_bestRow 63 = .ok (.istore 8, 2) := by decide +kernel
theorem dX5_bestRow_65 : decode cX5_bestRow 65 = .ok (.iload 8, 2) := by decide +kernel
theorem dX5_bestRow_67 : decode cX5_bestRow 67 = .ok (.iload 6, 2) := by decide +kernel
theorem dX5_bestRow_69 : decode cX5_bestRow 69 = .ok (.if_icmp .le 11, 3) := by decide +kernel
theorem dX5_bestRow_72 : decode cX5_bestRow 72 = .ok (.iload 8, 2) := by decide +kernel
theorem dX5_bestRow_74 : decode cX5_bestRow 74 = .ok (.istore 6, 2) := by decide +kernel
theorem dX5_bestRow_76 : decode cX5_bestRow 76 = .ok (.iload 7, 2) := by decide +kernel
theorem dX5_bestRow_78 : decode cX5_bestRow 78 = .ok (.istore 5, 2) := by decide +kernel
theorem dX5_bestRow_80 : decode cX5_bestRow 80 = .ok (.iinc 7 1, 3) := by decide +kernel
theorem dX5_bestRow_83 : decode cX5_bestRow 83 = .ok (.goto (-37), 3) := by decide +kernel
theorem dX5_bestRow_86 : decode cX5_bestRow 86 = .ok (.iload 4, 2) := by decide +kernel
theorem dX5_bestRow_88 : decode cX5_bestRow 88 = .ok (.ifCond .ne 8, 3) := by decide +kernel
theorem dX5_bestRow_91 : decode cX5_bestRow 91 = .ok (.iload 5, 2) := by decide +kernel
theorem dX5_bestRow_93 : decode cX5_bestRow 93 = .ok (.goto 5, 3) := by decide +kernel
theorem dX5_bestRow_96 : decode cX5_bestRow 96 = .ok (.iload 6, 2) := by decide +kernel
theorem dX5_bestRow_98 : decode cX5_bestRow 98 = .ok (.ireturn, 1) := by decide +kernel
theorem dX5_count_0 : decode cX5_count 0 = .ok (.iload_n 1, 1) := by decide +kernel
theorem dX5_count_1 : decode cX5_count 1 = .ok (.bipush 20, 2) := by decide +kernel
theorem dX5_count_3 : decode cX5_count 3 = .ok (.bipush 22, 2) := by decide +kernel
theorem dX5_count_5 : decode cX5_count 5 = .ok (.invokestatic 33, 3) := by decide +kernel
theorem dX5_count_8 : decode cX5_count 8 = .ok (.ifCond .eq 16, 3) := by decide +kernel
theorem dX5_count_11 : decode cX5_count 11 = .ok (.aload_n 0, 1) := by decide +kernel
theorem dX5_count_12 : decode cX5_count 12 = .ok (.getfield 10, 3) := by decide +kernel
theorem dX5_count_15 : decode cX5_count 15 = .ok (.getfield 49, 3) := by decide +kernel
theorem dX5_count_18 : decode cX5_count 18 = .ok (.iload_n 1, 1) := by decide +kernel
theorem dX5_count_19 : decode cX5_count 19 = .ok (.bipush 20, 2) := by decide +kernel
theorem dX5_count_21 : decode cX5_count 21 = .ok (.isub, 1) := by decide +kernel
theorem dX5_count_22 : decode cX5_count 22 = .ok (.iaload, 1) := by decide +kernel
theorem dX5_count_23 : decode cX5_count 23 = .ok (.ireturn, 1) := by decide +kernel
theorem dX5_count_24 : decode cX5_count 24 = .ok (.iload_n 1, 1) := by decide +kernel
theorem dX5_count_25 : decode cX5_count 25 = .ok (.tableswitch 147 0 10 #[59, 67, 75, 83, 91, 99, 107, 115, 123, 131, 139], 59) := by decide +kernel
theorem dX5_count_84 : decode cX5_count 84 = .ok (.aload_n 0, 1) := by decide +kernel
theorem dX5_count_85 : decode cX5_count 85 = .ok (.getfield 10, 3) := by decide +kernel
theorem dX5_count_88 : decode cX5_count 88 = .ok (.getfield 56, 3) := by decide +kernel
theorem dX5_count_91 : decode cX5_count 91 = .ok (.ireturn, 1) := by decide +kernel
theorem dX5_count_92 : decode cX5_count 92 = .ok (.aload_n 0, 1) := by decide +kernel
theorem dX5_count_93 : decode cX5_count 93 = .ok (.getfield 10, 3) := by decide +kernel
theorem dX5_count_96 : decode cX5_count 96 = .ok (.invokevirtual 202, 3) := by decide +kernel
theorem dX5_count_99 : decode cX5_count 99 = .ok (.ireturn, 1) := by decide +kernel
theorem dX5_count_100 : decode cX5_count 100 = .ok (.aload_n 0, 1) := by decide +kernel
theorem dX5_count_101 : decode cX5_count 101 = .ok (.getfield 10, 3) := by decide +kernel
theorem dX5_count_104 : decode cX5_count 104 = .ok (.invokevirtual 205, 3) := by decide +kernel
theorem dX5_count_107 : decode cX5_count 107 = .ok (.ireturn, 1) := by decide +kernel
theorem dX5_count_108 : decode cX5_count 108 = .ok (.aload_n 0, 1) := by decide +kernel
theorem dX5_count_109 : decode cX5_count 109 = .ok (.getfield 10, 3) := by decide +kernel
theorem dX5_count_112 : decode cX5_count 112 = .ok (.getfield 208, 3) := by decide +kernel
theorem dX5_count_115 : decode cX5_count 115 = .ok (.ireturn, 1) := by decide +kernel
theorem dX5_count_116 : decode cX5_count 116 = .ok (.aload_n 0, 1) := by decide +kernel
theorem dX5_count_117 : decode cX5_count 117 = .ok (.getfield 10, 3) := by decide +kernel
theorem dX5_count_120 : decode cX5_count 120 = .ok (.invokevirtual 211, 3) := by decide +kernel
theorem dX5_count_123 : decode cX5_count 123 = .ok (.ireturn, 1) := by decide +kernel
theorem dX5_count_124 : decode cX5_count 124 = .ok (.aload_n 0, 1) := by decide +kernel
theorem dX5_count_125 : decode cX5_count 125 = .ok (.getfield 10, 3) := by decide +kernel
theorem dX5_count_128 : decode cX5_count 128 = .ok (.getfield 164, 3) := by decide +kernel
theorem dX5_count_131 : decode cX5_count 131 = .ok (.ireturn, 1) := by decide +kernel
theorem dX5_count_132 : decode cX5_count 132 = .ok (.aload_n 0, 1) := by decide +kernel
theorem dX5_count_133 : decode cX5_count 133 = .ok (.getfield 10, 3) := by decide +kernel
theorem dX5_count_136 : decode cX5_count 136 = .ok (.getfield 214, 3) := by decide +kernel
theorem dX5_count_139 : decode cX5_count 139 = .ok (.ireturn, 1) := by decide +kernel
theorem dX5_count_140 : decode cX5_count 140 = .ok (.aload_n 0, 1) := by decide +kernel
theorem dX5_count_141 : decode cX5_count 141 = .ok (.getfield 10, 3) := by decide +kernel
theorem dX5_count_144 : decode cX5_count 144 = .ok (.getfield 217, 3) := by decide +kernel
theorem dX5_count_147 : decode cX5_count 147 = .ok (.ireturn, 1) := by decide +kernel
theorem dX5_count_148 : decode cX5_count 148 = .ok (.aload_n 0, 1) := by decide +kernel
theorem dX5_count_149 : decode cX5_count 149 = .ok (.getfield 10, 3) := by decide +kernel
theorem dX5_count_152 : decode cX5_count 152 = .ok (.getfield 100, 3) := by decide +kernel
theorem dX5_count_155 : decode cX5_count 155 = .ok (.ireturn, 1) := by decide +kernel
theorem dX5_count_156 : decode cX5_count 156 = .ok (.aload_n 0, 1) := by decide +kernel
theorem dX5_count_157 : decode cX5_count 157 = .ok (.getfield 22, 3) := by decide +kernel
theorem dX5_count_160 : decode cX5_count 160 = .ok (.getfield 220, 3) := by decide +kernel
theorem dX5_count_163 : decode cX5_count 163 = .ok (.ireturn, 1) := by decide +kernel
theorem dX5_count_164 : decode cX5_count 164 = .ok (.aload_n 0, 1) := by decide +kernel
theorem dX5_count_165 : decode cX5_count 165 = .ok (.getfield 29, 3) := by decide +kernel
theorem dX5_count_168 : decode cX5_count 168 = .ok (.getfield 223, 3) := by decide +kernel
theorem dX5_count_171 : decode cX5_count 171 = .ok (.ireturn, 1) := by decide +kernel
theorem dX5_count_172 : decode cX5_count 172 = .ok (.ldc 44, 2) := by decide +kernel
theorem dX5_count_174 : decode cX5_count 174 = .ok (.ireturn, 1) := by decide +kernel
theorem dX5_isWithin_0 : decode cX5_isWithin 0 = .ok (.iload_n 0, 1) := by decide +kernel
theorem dX5_isWithin_1 : decode cX5_isWithin 1 = .ok (.iload_n 1, 1) := by decide +kernel
theorem dX5_isWithin_2 : decode cX5_isWithin 2 = .ok (.if_icmp .lt 12, 3) := by decide +kernel
theorem dX5_isWithin_5 : decode cX5_isWithin 5 = .ok (.iload_n 0, 1) := by decide +kernel
theorem dX5_isWithin_6 : decode cX5_isWithin 6 = .ok (.iload_n 2, 1) := by decide +kernel
theorem dX5_isWithin_7 : decode cX5_isWithin 7 = .ok (.if_icmp .gt 7, 3) := by decide +kernel
theorem dX5_isWithin_10 : decode cX5_isWithin 10 = .ok (.iconst 1, 1) := by decide +kernel
theorem dX5_isWithin_11 : decode cX5_isWithin 11 = .ok (.goto 4, 3) := by decide +kernel
theorem dX5_isWithin_14 : decode cX5_isWithin 14 = .ok (.iconst 0, 1) := by decide +kernel
theorem dX5_isWithin_15 : decode cX5_isWithin 15 = .ok (.ireturn, 1) := by decide +kernel
theorem dX5_isAddress_0 : decode cX5_isAddress 0 = .ok (.iload_n 0, 1) := by decide +kernel
theorem dX5_isAddress_1 : decode cX5_isAddress 1 = .ok (.iconst 0, 1) := by decide +kernel
theorem dX5_isAddress_2 : decode cX5_isAddress 2 = .ok (.bipush 63, 2) := by decide +kernel
theorem dX5_isAddress_4 : decode cX5_isAddress 4 = .ok (.invokestatic 33, 3) := by decide +kernel
theorem dX5_isAddress_7 : decode cX5_isAddress 7 = .ok (.ireturn, 1) := by decide +kernel
theorem dX5_isOracle_0 : decode cX5_isOracle 0 = .ok (.iload_n 1, 1) := by decide +kernel
theorem dX5_isOracle_1 : decode cX5_isOracle 1 = .ok (.iconst 0, 1) := by decide +kernel
theorem dX5_isOracle_2 : decode cX5_isOracle 2 = .ok (.aload_n 0, 1) := by decide +kernel
theorem dX5_isOracle_3 : decode cX5_isOracle 3 = .ok (.getfield 10, 3) := by decide +kernel
theorem dX5_isOracle_6 : decode cX5_isOracle 6 = .ok (.getfield 56, 3) := by decide +kernel
theorem dX5_isOracle_9 : decode cX5_isOracle 9 = .ok (.iconst 1, 1) := by decide +kernel
theorem dX5_isOracle_10 : decode cX5_isOracle 10 = .ok (.isub, 1) := by decide +kernel
theorem dX5_isOracle_11 : decode cX5_isOracle 11 = .ok (.invokestatic 33, 3) := by decide +kernel
theorem dX5_isOracle_14 : decode cX5_isOracle 14 = .ok (.ireturn, 1) := by decide +kernel
theorem dX5_mostNumberOf_0 : decode cX5_mostNumberOf 0 = .ok (.iload_n 0, 1) := by decide +kernel
theorem dX5_mostNumberOf_1 : decode cX5_mostNumberOf 1 = .ok (.ifCond .ne 5, 3) := by decide +kernel
theorem dX5_mostNumberOf_4 : decode cX5_mostNumberOf 4 = .ok (.iconst 1, 1) := by decide +kernel
theorem dX5_mostNumberOf_5 : decode cX5_mostNumberOf 5 = .ok (.ireturn, 1) := by decide +kernel
theorem dX5_mostNumberOf_6 : decode cX5_mostNumberOf 6 = .ok (.iload_n 0, 1) := by decide +kernel
theorem dX5_mostNumberOf_7 : decode cX5_mostNumberOf 7 = .ok (.iconst 4, 1) := by decide +kernel
theorem dX5_mostNumberOf_8 : decode cX5_mostNumberOf 8 = .ok (.if_icmp .ne 7, 3) := by decide +kernel
theorem dX5_mostNumberOf_11 : decode cX5_mostNumberOf 11 = .ok (.iconst 0, 1) := by decide +kernel
theorem dX5_mostNumberOf_12 : decode cX5_mostNumberOf 12 = .ok (.goto 4, 3) := by decide +kernel
theorem dX5_mostNumberOf_15 : decode cX5_mostNumberOf 15 = .ok (.iconst 5, 1) := by decide +kernel
theorem dX5_mostNumberOf_16 : decode cX5_mostNumberOf 16 = .ok (.ireturn, 1) := by decide +kernel
theorem dX5_takes_0 : decode cX5_takes 0 = .ok (.iload_n 0, 1) := by decide +kernel
theorem dX5_takes_1 : decode cX5_takes 1 = .ok (.ifCond .ne 16, 3) := by decide +kernel
theorem dX5_takes_4 : decode cX5_takes 4 = .ok (.aload_n 1, 1) := by decide +kernel
theorem dX5_takes_5 : decode cX5_takes 5 = .ok (.getfield 114, 3) := by decide +kernel
theorem dX5_takes_8 : decode cX5_takes 8 = .ok (.ifCond .ne 7, 3) := by decide +kernel
theorem dX5_takes_11 : decode cX5_takes 11 = .ok (.iconst 1, 1) := by decide +kernel
theorem dX5_takes_12 : decode cX5_takes 12 = .ok (.goto 4, 3) := by decide +kernel
theorem dX5_takes_15 : decode cX5_takes 15 = .ok (.iconst 0, 1) := by decide +kernel
theorem dX5_takes_16 : decode cX5_takes 16 = .ok (.ireturn, 1) := by decide +kernel
theorem dX5_takes_17 : decode cX5_takes 17 = .ok (.iload_n 0, 1) := by decide +kernel
theorem dX5_takes_18 : decode cX5_takes 18 = .ok (.iconst 1, 1) := by decide +kernel
theorem dX5_takes_19 : decode cX5_takes 19 = .ok (.if_icmp .ne 10, 3) := by decide +kernel
theorem dX5_takes_22 : decode cX5_takes 22 = .ok (.aload_n 1, 1) := by decide +kernel
theorem dX5_takes_23 : decode cX5_takes 23 = .ok (.invokevirtual 161, 3) := by decide +kernel
theorem dX5_takes_26 : decode cX5_takes 26 = .ok (.ifCond .eq 7, 3) := by decide +kernel
theorem dX5_takes_29 : decode cX5_takes 29 = .ok (.iconst 1, 1) := by decide +kernel
theorem dX5_takes_30 : decode cX5_takes 30 = .ok (.goto 4, 3) := by decide +kernel
theorem dX5_takes_33 : decode cX5_takes 33 = .ok (.iconst 0, 1) := by decide +kernel
theorem dX5_takes_34 : decode cX5_takes 34 = .ok (.ireturn, 1) := by decide +kernel
theorem dX5_bitsOfQuotient_0 : decode cX5_bitsOfQuotient 0 = .ok (.iload_n 0, 1) := by decide +kernel
theorem dX5_bitsOfQuotient_1 : decode cX5_bitsOfQuotient 1 = .ok (.ifCond .le 7, 3) := by decide +kernel
theorem dX5_bitsOfQuotient_4 : decode cX5_bitsOfQuotient 4 = .ok (.iload_n 1, 1) := by decide +kernel
theorem dX5_bitsOfQuotient_5 : decode cX5_bitsOfQuotient 5 = .ok (.ifCond .gt 5, 3) := by decide +kernel
theorem dX5_bitsOfQuotient_8 : decode cX5_bitsOfQuotient 8 = .ok (.iconst 0, 1) := by decide +kernel
theorem dX5_bitsOfQuotient_9 : decode cX5_bitsOfQuotient 9 = .ok (.ireturn, 1) := by decide +kernel
theorem dX5_bitsOfQuotient_10 : decode cX5_bitsOfQuotient 10 = .ok (.iload_n 0, 1) := by decide +kernel
theorem dX5_bitsOfQuotient_11 : decode cX5_bitsOfQuotient 11 = .ok (.i2f, 1) := by decide +kernel
theorem dX5_bitsOfQuotient_12 : decode cX5_bitsOfQuotient 12 = .ok (.iload_n 1, 1) := by decide +kernel
theorem dX5_bitsOfQuotient_13 : decode cX5_bitsOfQuotient 13 = .ok (.i2f, 1) := by decide +kernel
theorem dX5_bitsOfQuotient_14 : decode cX5_bitsOfQuotient 14 = .ok (.fdiv, 1) := by decide +kernel
theorem dX5_bitsOfQuotient_15 : decode cX5_bitsOfQuotient 15 = .ok (.fstore_n 2, 1) := by decide +kernel
theorem dX5_bitsOfQuotient_16 : decode cX5_bitsOfQuotient 16 = .ok (.bipush 127, 2) := by decide +kernel
theorem dX5_bitsOfQuotient_18 : decode cX5_bitsOfQuotient 18 = .ok (.istore_n 3, 1) := by decide +kernel
theorem dX5_bitsOfQuotient_19 : decode cX5_bitsOfQuotient 19 = .ok (.iconst 0, 1) := by decide +kernel
theorem dX5_bitsOfQuotient_20 : decode cX5_bitsOfQuotient 20 = .ok (.istore 4, 2) := by decide +kernel
theorem dX5_bitsOfQuotient_22 : decode cX5_bitsOfQuotient 22 = .ok (.iload 4, 2) := by decide +kernel
theorem dX5_bitsOfQuotient_24 : decode cX5_bitsOfQuotient 24 = .ok (.bipush 126, 2) := by decide +kernel
theorem dX5_bitsOfQuotient_26 : decode cX5_bitsOfQuotient 26 = .ok (.if_icmp .ge 22, 3) := by decide +kernel
theorem dX5_bitsOfQuotient_29 : decode cX5_bitsOfQuotient 29 = .ok (.fload_n 2, 1) := by decide +kernel
theorem dX5_bitsOfQuotient_30 : decode cX5_bitsOfQuotient 30 = .ok (.fconst 1, 1) := by decide +kernel
theorem dX5_bitsOfQuotient_31 : decode cX5_bitsOfQuotient 31 = .ok (.fcmp .g, 1) := by decide +kernel
theorem dX5_bitsOfQuotient_32 : decode cX5_bitsOfQuotient 32 = .ok (.ifCond .ge 16, 3) := by decide +kernel
theorem dX5_bitsOfQuotient_35 : decode cX5_bitsOfQuotient 35 = .ok (.fload_n 2, 1) := by decide +kernel
theorem dX5_bitsOfQuotient_36 : decode cX5_bitsOfQuotient 36 = .ok (.fconst 2, 1) := by decide +kernel
theorem dX5_bitsOfQuotient_37 : decode cX5_bitsOfQuotient 37 = .ok (.fmul, 1) := by decide +kernel
theorem dX5_bitsOfQuotient_38 : decode cX5_bitsOfQuotient 38 = .ok (.fstore_n 2, 1) := by decide +kernel
theorem dX5_bitsOfQuotient_39 : decode cX5_bitsOfQuotient 39 = .ok (.iinc 3 (-1), 3) := by decide +kernel
theorem dX5_bitsOfQuotient_42 : decode cX5_bitsOfQuotient 42 = .ok (.iinc 4 1, 3) := by decide +kernel
theorem dX5_bitsOfQuotient_45 : decode cX5_bitsOfQuotient 45 = .ok (.goto (-23), 3) := by decide +kernel
theorem dX5_bitsOfQuotient_48 : decode cX5_bitsOfQuotient 48 = .ok (.iload_n 3, 1) := by decide +kernel
theorem dX5_bitsOfQuotient_49 : decode cX5_bitsOfQuotient 49 = .ok (.bipush 23, 2) := by decide +kernel
theorem dX5_bitsOfQuotient_51 : decode cX5_bitsOfQuotient 51 = .ok (.ishl, 1) := by decide +kernel
theorem dX5_bitsOfQuotient_52 : decode cX5_bitsOfQuotient 52 = .ok (.fload_n 2, 1) := by decide +kernel
theorem dX5_bitsOfQuotient_53 : decode cX5_bitsOfQuotient 53 = .ok (.ldc 254, 2) := by decide +kernel
theorem dX5_bitsOfQuotient_55 : decode cX5_bitsOfQuotient 55 = .ok (.fmul, 1) := by decide +kernel
theorem dX5_bitsOfQuotient_56 : decode cX5_bitsOfQuotient 56 = .ok (.f2i, 1) := by decide +kernel
theorem dX5_bitsOfQuotient_57 : decode cX5_bitsOfQuotient 57 = .ok (.ldc 255, 2) := by decide +kernel
theorem dX5_bitsOfQuotient_59 : decode cX5_bitsOfQuotient 59 = .ok (.isub, 1) := by decide +kernel
theorem dX5_bitsOfQuotient_60 : decode cX5_bitsOfQuotient 60 = .ok (.iadd, 1) := by decide +kernel
theorem dX5_bitsOfQuotient_61 : decode cX5_bitsOfQuotient 61 = .ok (.ireturn, 1) := by decide +kernel
theorem dX5_purseBehind_0 : decode cX5_purseBehind 0 = .ok (.aload_n 0, 1) := by decide +kernel
theorem dX5_purseBehind_1 : decode cX5_purseBehind 1 = .ok (.getfield 16, 3) := by decide +kernel
theorem dX5_purseBehind_4 : decode cX5_purseBehind 4 = .ok (.aload_n 0, 1) := by decide +kernel
theorem dX5_purseBehind_5 : decode cX5_purseBehind 5 = .ok (.getfield 10, 3) := by decide +kernel
theorem dX5_purseBehind_8 : decode cX5_purseBehind 8 = .ok (.invokevirtual 192, 3) := by decide +kernel
theorem dX5_purseBehind_11 : decode cX5_purseBehind 11 = .ok (.iload 4, 2) := by decide +kernel
theorem dX5_purseBehind_13 : decode cX5_purseBehind 13 = .ok (.iconst 1, 1) := by decide +kernel
theorem dX5_purseBehind_14 : decode cX5_purseBehind 14 = .ok (.isub, 1) := by decide +kernel
theorem dX5_purseBehind_15 : decode cX5_purseBehind 15 = .ok (.istore 5, 2) := by decide +kernel
theorem dX5_purseBehind_17 : decode cX5_purseBehind 17 = .ok (.iload 5, 2) := by decide +kernel
theorem dX5_purseBehind_19 : decode cX5_purseBehind 19 = .ok (.ifCond .lt 24, 3) := by decide +kernel
theorem dX5_purseBehind_22 : decode cX5_purseBehind 22 = .ok (.aload_n 0, 1) := by decide +kernel
theorem dX5_purseBehind_23 : decode cX5_purseBehind 23 = .ok (.getfield 16, 3) := by decide +kernel
theorem dX5_purseBehind_26 : decode cX5_purseBehind 26 = .ok (.iload_n 3, 1) := by decide +kernel
theorem dX5_purseBehind_27 : decode cX5_purseBehind 27 = .ok (.iload_n 1, 1) := by decide +kernel
theorem dX5_purseBehind_28 : decode cX5_purseBehind 28 = .ok (.iload 5, 2) := by decide +kernel
theorem dX5_purseBehind_30 : decode cX5_purseBehind 30 = .ok (.ishr, 1) := by decide +kernel
theorem dX5_purseBehind_31 : decode cX5_purseBehind 31 = .ok (.iconst 1, 1) := by decide +kernel
theorem dX5_purseBehind_32 : decode cX5_purseBehind 32 = .ok (.iand, 1) := by decide +kernel
theorem dX5_purseBehind_33 : decode cX5_purseBehind 33 = .ok (.invokevirtual 110, 3) := by decide +kernel
theorem dX5_purseBehind_36 : decode cX5_purseBehind 36 = .ok (.pop, 1) := by decide +kernel
theorem dX5_purseBehind_37 : decode cX5_purseBehind 37 = .ok (.iinc 5 (-1), 3) := by decide +kernel
theorem dX5_purseBehind_40 : decode cX5_purseBehind 40 = .ok (.goto (-23), 3) := by decide +kernel
theorem dX5_purseBehind_43 : decode cX5_purseBehind 43 = .ok (.aload_n 0, 1) := by decide +kernel
theorem dX5_purseBehind_44 : decode cX5_purseBehind 44 = .ok (.getfield 16, 3) := by decide +kernel
theorem dX5_purseBehind_47 : decode cX5_purseBehind 47 = .ok (.getfield 61, 3) := by decide +kernel
theorem dX5_purseBehind_50 : decode cX5_purseBehind 50 = .ok (.iload_n 2, 1) := by decide +kernel
theorem dX5_purseBehind_51 : decode cX5_purseBehind 51 = .ok (.aaload, 1) := by decide +kernel
theorem dX5_purseBehind_52 : decode cX5_purseBehind 52 = .ok (.getfield 96, 3) := by decide +kernel
theorem dX5_purseBehind_55 : decode cX5_purseBehind 55 = .ok (.ireturn, 1) := by decide +kernel
