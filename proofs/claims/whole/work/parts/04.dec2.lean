/-! decode rows (printed by the kit's program) -/
theorem dX5_init_0 : decode cX5_init 0 = .ok (.aload_n 0, 1) := by decide +kernel
theorem dX5_init_1 : decode cX5_init 1 = .ok (.invokespecial 1, 3) := by decide +kernel
theorem dX5_init_4 : decode cX5_init 4 = .ok (.aload_n 0, 1) := by decide +kernel
theorem dX5_init_5 : decode cX5_init 5 = .ok (.new 7, 3) := by decide +kernel
theorem dX5_init_8 : decode cX5_init 8 = .ok (.dup, 1) := by decide +kernel
theorem dX5_init_9 : decode cX5_init 9 = .ok (.invokespecial 9, 3) := by decide +kernel
theorem dX5_init_12 : decode cX5_init 12 = .ok (.putfield 10, 3) := by decide +kernel
theorem dX5_init_15 : decode cX5_init 15 = .ok (.aload_n 0, 1) := by decide +kernel
theorem dX5_init_16 : decode cX5_init 16 = .ok (.new 7, 3) := by decide +kernel
theorem dX5_init_19 : decode cX5_init 19 = .ok (.dup, 1) := by decide +kernel
theorem dX5_init_20 : decode cX5_init 20 = .ok (.invokespecial 9, 3) := by decide +kernel
theorem dX5_init_23 : decode cX5_init 23 = .ok (.putfield 16, 3) := by decide +kernel
theorem dX5_init_26 : decode cX5_init 26 = .ok (.aload_n 0, 1) := by decide +kernel
theorem dX5_init_27 : decode cX5_init 27 = .ok (.new 19, 3) := by decide +kernel
theorem dX5_init_30 : decode cX5_init 30 = .ok (.dup, 1) := by decide +kernel
theorem dX5_init_31 : decode cX5_init 31 = .ok (.invokespecial 21, 3) := by decide +kernel
theorem dX5_init_34 : decode cX5_init 34 = .ok (.putfield 22, 3) := by decide +kernel
theorem dX5_init_37 : decode cX5_init 37 = .ok (.aload_n 0, 1) := by decide +kernel
theorem dX5_init_38 : decode cX5_init 38 = .ok (.new 26, 3) := by decide +kernel
theorem dX5_init_41 : decode cX5_init 41 = .ok (.dup, 1) := by decide +kernel
theorem dX5_init_42 : decode cX5_init 42 = .ok (.invokespecial 28, 3) := by decide +kernel
theorem dX5_init_45 : decode cX5_init 45 = .ok (.putfield 29, 3) := by decide +kernel
theorem dX5_init_48 : decode cX5_init 48 = .ok (.return_, 1) := by decide +kernel
theorem dX5_set_0 : decode cX5_set 0 = .ok (.iload_n 1, 1) := by decide +kernel
theorem dX5_set_1 : decode cX5_set 1 = .ok (.iconst 0, 1) := by decide +kernel
theorem dX5_set_2 : decode cX5_set 2 = .ok (.iconst 2, 1) := by decide +kernel
theorem dX5_set_3 : decode cX5_set 3 = .ok (.invokestatic 33, 3) := by decide +kernel
theorem dX5_set_6 : decode cX5_set 6 = .ok (.ifCond .eq 20, 3) := by decide +kernel
theorem dX5_set_9 : decode cX5_set 9 = .ok (.iload_n 2, 1) := by decide +kernel
theorem dX5_set_10 : decode cX5_set 10 = .ok (.getstatic 37, 3) := by decide +kernel
theorem dX5_set_13 : decode cX5_set 13 = .ok (.iload_n 1, 1) := by decide +kernel
theorem dX5_set_14 : decode cX5_set 14 = .ok (.iaload, 1) := by decide +kernel
theorem dX5_set_15 : decode cX5_set 15 = .ok (.getstatic 41, 3) := by decide +kernel
theorem dX5_set_18 : decode cX5_set 18 = .ok (.iload_n 1, 1) := by decide +kernel
theorem dX5_set_19 : decode cX5_set 19 = .ok (.iaload, 1) := by decide +kernel
theorem dX5_set_20 : decode cX5_set 20 = .ok (.invokestatic 33, 3) := by decide +kernel
theorem dX5_set_23 : decode cX5_set 23 = .ok (.ifCond .ne 6, 3) := by decide +kernel
theorem dX5_set_26 : decode cX5_set 26 = .ok (.ldc 44, 2) := by decide +kernel
theorem dX5_set_28 : decode cX5_set 28 = .ok (.ireturn, 1) := by decide +kernel
theorem dX5_set_29 : decode cX5_set 29 = .ok (.aload_n 0, 1) := by decide +kernel
theorem dX5_set_30 : decode cX5_set 30 = .ok (.getfield 22, 3) := by decide +kernel
theorem dX5_set_33 : decode cX5_set 33 = .ok (.aload_n 0, 1) := by decide +kernel
theorem dX5_set_34 : decode cX5_set 34 = .ok (.getfield 10, 3) := by decide +kernel
theorem dX5_set_37 : decode cX5_set 37 = .ok (.invokevirtual 45, 3) := by decide +kernel
theorem dX5_set_40 : decode cX5_set 40 = .ok (.aload_n 0, 1) := by decide +kernel
theorem dX5_set_41 : decode cX5_set 41 = .ok (.getfield 10, 3) := by decide +kernel
theorem dX5_set_44 : decode cX5_set 44 = .ok (.getfield 49, 3) := by decide +kernel
theorem dX5_set_47 : decode cX5_set 47 = .ok (.iload_n 1, 1) := by decide +kernel
theorem dX5_set_48 : decode cX5_set 48 = .ok (.iaload, 1) := by decide +kernel
theorem dX5_set_49 : decode cX5_set 49 = .ok (.istore_n 3, 1) := by decide +kernel
theorem dX5_set_50 : decode cX5_set 50 = .ok (.aload_n 0, 1) := by decide +kernel
theorem dX5_set_51 : decode cX5_set 51 = .ok (.getfield 10, 3) := by decide +kernel
theorem dX5_set_54 : decode cX5_set 54 = .ok (.getfield 49, 3) := by decide +kernel
theorem dX5_set_57 : decode cX5_set 57 = .ok (.iload_n 1, 1) := by decide +kernel
theorem dX5_set_58 : decode cX5_set 58 = .ok (.iload_n 2, 1) := by decide +kernel
theorem dX5_set_59 : decode cX5_set 59 = .ok (.iastore, 1) := by decide +kernel
theorem dX5_set_60 : decode cX5_set 60 = .ok (.iload_n 3, 1) := by decide +kernel
theorem dX5_set_61 : decode cX5_set 61 = .ok (.ireturn, 1) := by decide +kernel
theorem dX5_oracle_0 : decode cX5_oracle 0 = .ok (.iload_n 1, 1) := by decide +kernel
theorem dX5_oracle_1 : decode cX5_oracle 1 = .ok (.iconst 0, 1) := by decide +kernel
theorem dX5_oracle_2 : decode cX5_oracle 2 = .ok (.iconst 4, 1) := by decide +kernel
theorem dX5_oracle_3 : decode cX5_oracle 3 = .ok (.invokestatic 33, 3) := by decide +kernel
theorem dX5_oracle_6 : decode cX5_oracle 6 = .ok (.ifCond .eq 26, 3) := by decide +kernel
theorem dX5_oracle_9 : decode cX5_oracle 9 = .ok (.iload_n 2, 1) := by decide +kernel
theorem dX5_oracle_10 : decode cX5_oracle 10 = .ok (.iconst 0, 1) := by decide +kernel
theorem dX5_oracle_11 : decode cX5_oracle 11 = .ok (.iload_n 1, 1) := by decide +kernel
theorem dX5_oracle_12 : decode cX5_oracle 12 = .ok (.invokestatic 52, 3) := by decide +kernel
theorem dX5_oracle_15 : decode cX5_oracle 15 = .ok (.invokestatic 33, 3) := by decide +kernel
theorem dX5_oracle_18 : decode cX5_oracle 18 = .ok (.ifCond .eq 14, 3) := by decide +kernel
theorem dX5_oracle_21 : decode cX5_oracle 21 = .ok (.iload_n 3, 1) := by decide +kernel
theorem dX5_oracle_22 : decode cX5_oracle 22 = .ok (.iconst 0, 1) := by decide +kernel
theorem dX5_oracle_23 : decode cX5_oracle 23 = .ok (.sipush 9999, 3) := by decide +kernel
theorem dX5_oracle_26 : decode cX5_oracle 26 = .ok (.invokestatic 33, 3) := by decide +kernel
theorem dX5_oracle_29 : decode cX5_oracle 29 = .ok (.ifCond .ne 6, 3) := by decide +kernel
theorem dX5_oracle_32 : decode cX5_oracle 32 = .ok (.ldc 44, 2) := by decide +kernel
theorem dX5_oracle_34 : decode cX5_oracle 34 = .ok (.ireturn, 1) := by decide +kernel
theorem dX5_oracle_35 : decode cX5_oracle 35 = .ok (.aload_n 0, 1) := by decide +kernel
theorem dX5_oracle_36 : decode cX5_oracle 36 = .ok (.getfield 10, 3) := by decide +kernel
theorem dX5_oracle_39 : decode cX5_oracle 39 = .ok (.getfield 56, 3) := by decide +kernel
theorem dX5_oracle_42 : decode cX5_oracle 42 = .ok (.bipush 6, 2) := by decide +kernel
theorem dX5_oracle_44 : decode cX5_oracle 44 = .ok (.if_icmp .lt 6, 3) := by decide +kernel
theorem dX5_oracle_47 : decode cX5_oracle 47 = .ok (.ldc 60, 2) := by decide +kernel
theorem dX5_oracle_49 : decode cX5_oracle 49 = .ok (.ireturn, 1) := by decide +kernel
theorem dX5_oracle_50 : decode cX5_oracle 50 = .ok (.aload_n 0, 1) := by decide +kernel
theorem dX5_oracle_51 : decode cX5_oracle 51 = .ok (.getfield 22, 3) := by decide +kernel
theorem dX5_oracle_54 : decode cX5_oracle 54 = .ok (.aload_n 0, 1) := by decide +kernel
theorem dX5_oracle_55 : decode cX5_oracle 55 = .ok (.getfield 10, 3) := by decide +kernel
theorem dX5_oracle_58 : decode cX5_oracle 58 = .ok (.invokevirtual 45, 3) := by decide +kernel
theorem dX5_oracle_61 : decode cX5_oracle 61 = .ok (.aload_n 0, 1) := by decide +kernel
theorem dX5_oracle_62 : decode cX5_oracle 62 = .ok (.getfield 10, 3) := by decide +kernel
theorem dX5_oracle_65 : decode cX5_oracle 65 = .ok (.getfield 56, 3) := by decide +kernel
theorem dX5_oracle_68 : decode cX5_oracle 68 = .ok (.istore 4, 2) := by decide +kernel
theorem dX5_oracle_70 : decode cX5_oracle 70 = .ok (.aload_n 0, 1) := by decide +kernel
theorem dX5_oracle_71 : decode cX5_oracle 71 = .ok (.getfield 10, 3) := by decide +kernel
theorem dX5_oracle_74 : decode cX5_oracle 74 = .ok (.getfield 61, 3) := by decide +kernel
theorem dX5_oracle_77 : decode cX5_oracle 77 = .ok (.iload 4, 2) := by decide +kernel
theorem dX5_oracle_79 : decode cX5_oracle 79 = .ok (.aaload, 1) := by decide +kernel
theorem dX5_oracle_80 : decode cX5_oracle 80 = .ok (.iload_n 1, 1) := by decide +kernel
theorem dX5_oracle_81 : decode cX5_oracle 81 = .ok (.iload_n 2, 1) := by decide +kernel
theorem dX5_oracle_82 : decode cX5_oracle 82 = .ok (.iload_n 3, 1) := by decide +kernel
theorem dX5_oracle_83 : decode cX5_oracle 83 = .ok (.invokevirtual 65, 3) := by decide +kernel
theorem dX5_oracle_86 : decode cX5_oracle 86 = .ok (.aload_n 0, 1) := by decide +kernel
theorem dX5_oracle_87 : decode cX5_oracle 87 = .ok (.getfield 10, 3) := by decide +kernel
theorem dX5_oracle_90 : decode cX5_oracle 90 = .ok (.iload 4, 2) := by decide +kernel
theorem dX5_oracle_92 : decode cX5_oracle 92 = .ok (.iconst 1, 1) := by decide +kernel
theorem dX5_oracle_93 : decode cX5_oracle 93 = .ok (.iadd, 1) := by decide +kernel
theorem dX5_oracle_94 : decode cX5_oracle 94 = .ok (.putfield 56, 3) := by decide +kernel
theorem dX5_oracle_97 : decode cX5_oracle 97 = .ok (.iload 4, 2) := by decide +kernel
theorem dX5_oracle_99 : decode cX5_oracle 99 = .ok (.ireturn, 1) := by decide +kernel
theorem dX5_seat_0 : decode cX5_seat 0 = .ok (.aload_n 0, 1) := by decide +kernel
theorem dX5_seat_1 : decode cX5_seat 1 = .ok (.iload_n 1, 1) := by decide +kernel
theorem dX5_seat_2 : decode cX5_seat 2 = .ok (.invokevirtual 71, 3) := by decide +kernel
theorem dX5_seat_5 : decode cX5_seat 5 = .ok (.ifCond .eq 12, 3) := by decide +kernel
theorem dX5_seat_8 : decode cX5_seat 8 = .ok (.iload_n 2, 1) := by decide +kernel
theorem dX5_seat_9 : decode cX5_seat 9 = .ok (.iconst 0, 1) := by decide +kernel
theorem dX5_seat_10 : decode cX5_seat 10 = .ok (.iconst 2, 1) := by decide +kernel
theorem dX5_seat_11 : decode cX5_seat 11 = .ok (.invokestatic 33, 3) := by decide +kernel
theorem dX5_seat_14 : decode cX5_seat 14 = .ok (.ifCond .ne 6, 3) := by decide +kernel
theorem dX5_seat_17 : decode cX5_seat 17 = .ok (.ldc 44, 2) := by decide +kernel
theorem dX5_seat_19 : decode cX5_seat 19 = .ok (.ireturn, 1) := by decide +kernel
theorem dX5_seat_20 : decode cX5_seat 20 = .ok (.aload_n 0, 1) := by decide +kernel
theorem dX5_seat_21 : decode cX5_seat 21 = .ok (.getfield 10, 3) := by decide +kernel
theorem dX5_seat_24 : decode cX5_seat 24 = .ok (.getfield 61, 3) := by decide +kernel
theorem dX5_seat_27 : decode cX5_seat 27 = .ok (.iload_n 1, 1) := by decide +kernel
theorem dX5_seat_28 : decode cX5_seat 28 = .ok (.aaload, 1) := by decide +kernel
theorem dX5_seat_29 : decode cX5_seat 29 = .ok (.astore_n 3, 1) := by decide +kernel
theorem dX5_seat_30 : decode cX5_seat 30 = .ok (.aload_n 3, 1) := by decide +kernel
theorem dX5_seat_31 : decode cX5_seat 31 = .ok (.invokevirtual 75, 3) := by decide +kernel
theorem dX5_seat_34 : decode cX5_seat 34 = .ok (.ifCond .ne 11, 3) := by decide +kernel
theorem dX5_seat_37 : decode cX5_seat 37 = .ok (.iload_n 2, 1) := by decide +kernel
theorem dX5_seat_38 : decode cX5_seat 38 = .ok (.aload_n 3, 1) := by decide +kernel
theorem dX5_seat_39 : decode cX5_seat 39 = .ok (.invokestatic 79, 3) := by decide +kernel
theorem dX5_seat_42 : decode cX5_seat 42 = .ok (.ifCond .ne 6, 3) := by decide +kernel
theorem dX5_seat_45 : decode cX5_seat 45 = .ok (.ldc 83, 2) := by decide +kernel
theorem dX5_seat_47 : decode cX5_seat 47 = .ok (.ireturn, 1) := by decide +kernel
theorem dX5_seat_48 : decode cX5_seat 48 = .ok (.aload_n 0, 1) := by decide +kernel
theorem dX5_seat_49 : decode cX5_seat 49 = .ok (.getfield 10, 3) := by decide +kernel
theorem dX5_seat_52 : decode cX5_seat 52 = .ok (.iload_n 2, 1) := by decide +kernel
theorem dX5_seat_53 : decode cX5_seat 53 = .ok (.invokevirtual 84, 3) := by decide +kernel
theorem dX5_seat_56 : decode cX5_seat 56 = .ok (.istore 4, 2) := by decide +kernel
theorem dX5_seat_58 : decode cX5_seat 58 = .ok (.iload 4, 2) := by decide +kernel
theorem dX5_seat_60 : decode cX5_seat 60 = .ok (.iconst (-1), 1) := by decide +kernel
theorem dX5_seat_61 : decode cX5_seat 61 = .ok (.if_icmp .ne 6, 3) := by decide +kernel
theorem dX5_seat_64 : decode cX5_seat 64 = .ok (.ldc 60, 2) := by decide +kernel
theorem dX5_seat_66 : decode cX5_seat 66 = .ok (.ireturn, 1) := by decide +kernel
theorem dX5_seat_67 : decode cX5_seat 67 = .ok (.aload_n 0, 1) := by decide +kernel
theorem dX5_seat_68 : decode cX5_seat 68 = .ok (.getfield 22, 3) := by decide +kernel
theorem dX5_seat_71 : decode cX5_seat 71 = .ok (.aload_n 0, 1) := by decide +kernel
theorem dX5_seat_72 : decode cX5_seat 72 = .ok (.getfield 10, 3) := by decide +kernel
theorem dX5_seat_75 : decode cX5_seat 75 = .ok (.invokevirtual 45, 3) := by decide +kernel
theorem dX5_seat_78 : decode cX5_seat 78 = .ok (.aload_n 3, 1) := by decide +kernel
theorem dX5_seat_79 : decode cX5_seat 79 = .ok (.iload_n 2, 1) := by decide +kernel
theorem dX5_seat_80 : decode cX5_seat 80 = .ok (.putfield 87, 3) := by decide +kernel
theorem dX5_seat_83 : decode cX5_seat 83 = .ok (.aload_n 3, 1) := by decide +kernel
theorem dX5_seat_84 : decode cX5_seat 84 = .ok (.iload 4, 2) := by decide +kernel
theorem dX5_seat_86 : decode cX5_seat 86 = .ok (.putfield 90, 3) := by decide +kernel
theorem dX5_seat_89 : decode cX5_seat 89 = .ok (.aload_n 0, 1) := by decide +kernel
theorem dX5_seat_90 : decode cX5_seat 90 = .ok (.getfield 10, 3) := by decide +kernel
theorem dX5_seat_93 : decode cX5_seat 93 = .ok (.iload_n 2, 1) := by decide +kernel
theorem dX5_seat_94 : decode cX5_seat 94 = .ok (.invokevirtual 93, 3) := by decide +kernel
theorem dX5_seat_97 : decode cX5_seat 97 = .ok (.ireturn, 1) := by decide +kernel
theorem dX5_stand_0 : decode cX5_stand 0 = .ok (.aload_n 0, 1) := by decide +kernel
theorem dX5_stand_1 : decode cX5_stand 1 = .ok (.iload_n 1, 1) := by decide +kernel
theorem dX5_stand_2 : decode cX5_stand 2 = .ok (.invokevirtual 71, 3) := by decide +kernel
theorem dX5_stand_5 : decode cX5_stand 5 = .ok (.ifCond .ne 6, 3) := by decide +kernel
theorem dX5_stand_8 : decode cX5_stand 8 = .ok (.ldc 44, 2) := by decide +kernel
theorem dX5_stand_10 : decode cX5_stand 10 = .ok (.ireturn, 1) := by decide +kernel
theorem dX5_stand_11 : decode cX5_stand 11 = .ok (.aload_n 0, 1) := by decide +kernel
theorem dX5_stand_12 : decode cX5_stand 12 = .ok (.getfield 10, 3) := by decide +kernel
theorem dX5_stand_15 : decode cX5_stand 15 = .ok (.getfield 61, 3) := by decide +kernel
theorem dX5_stand_18 : decode cX5_stand 18 = .ok (.iload_n 1, 1) := by decide +kernel
theorem dX5_stand_19 : decode cX5_stand 19 = .ok (.aaload, 1) := by decide +kernel
theorem dX5_stand_20 : decode cX5_stand 20 = .ok (.astore_n 2, 1) := by decide +kernel
theorem dX5_stand_21 : decode cX5_stand 21 = .ok (.aload_n 2, 1) := by decide +kernel
theorem dX5_stand_22 : decode cX5_stand 22 = .ok (.invokevirtual 75, 3) := by decide +kernel
theorem dX5_stand_25 : decode cX5_stand 25 = .ok (.ifCond .ne 6, 3) := by decide +kernel
theorem dX5_stand_28 : decode cX5_stand 28 = .ok (.ldc 83, 2) := by decide +kernel
theorem dX5_stand_30 : decode cX5_stand 30 = .ok (.ireturn, 1) := by decide +kernel
theorem dX5_stand_31 : decode cX5_stand 31 = .ok (.aload_n 0, 1) := by decide +kernel
theorem dX5_stand_32 : decode cX5_stand 32 = .ok (.getfield 22, 3) := by decide +kernel
theorem dX5_stand_35 : decode cX5_stand 35 = .ok (.aload_n 0, 1) := by decide +kernel
theorem dX5_stand_36 : decode cX5_stand 36 = .ok (.getfield 10, 3) := by decide +kernel
theorem dX5_stand_39 : decode cX5_stand 39 = .ok (.invokevirtual 45, 3) := by decide +kernel
theorem dX5_stand_42 : decode cX5_stand 42 = .ok (.aload_n 2, 1) := by decide +kernel
theorem dX5_stand_43 : decode cX5_stand 43 = .ok (.getfield 87, 3) := by decide +kernel
theorem dX5_stand_46 : decode cX5_stand 46 = .ok (.istore_n 3, 1) := by decide +kernel
theorem dX5_stand_47 : decode cX5_stand 47 = .ok (.aload_n 2, 1) := by decide +kernel
theorem dX5_stand_48 : decode cX5_stand 48 = .ok (.iconst (-1), 1) := by decide +kernel
theorem dX5_stand_49 : decode cX5_stand 49 = .ok (.putfield 87, 3) := by decide +kernel
theorem dX5_stand_52 : decode cX5_stand 52 = .ok (.aload_n 2, 1) := by decide +kernel
theorem dX5_stand_53 : decode cX5_stand 53 = .ok (.iconst (-1), 1) := by decide +kernel
theorem dX5_stand_54 : decode cX5_stand 54 = .ok (.putfield 90, 3) := by decide +kernel
theorem dX5_stand_57 : decode cX5_stand 57 = .ok (.iload_n 3, 1) := by decide +kernel
theorem dX5_stand_58 : decode cX5_stand 58 = .ok (.ireturn, 1) := by decide +kernel
theorem dX5_give_0 : decode cX5_give 0 = .ok (.aload_n 0, 1) := by decide +kernel
theorem dX5_give_1 : decode cX5_give 1 = .ok (.iload_n 1, 1) := by decide +kernel
theorem dX5_give_2 : decode cX5_give 2 = .ok (.invokevirtual 71, 3) := by decide +kernel
theorem dX5_give_5 : decode cX5_give 5 = .ok (.ifCond .eq 14, 3) := by decide +kernel
theorem dX5_give_8 : decode cX5_give 8 = .ok (.iload_n 2, 1) := by decide +kernel
theorem dX5_give_9 : decode cX5_give 9 = .ok (.iconst 1, 1) := by decide +kernel
theorem dX5_give_10 : decode cX5_give 10 = .ok (.sipush 9999, 3) := by decide +kernel
theorem dX5_give_13 : decode cX5_give 13 = .ok (.invokestatic 33, 3) := by decide +kernel
theorem dX5_give_16 : decode cX5_give 16 = .ok (.ifCond .ne 6, 3) := by decide +kernel
theorem dX5_give_19 : decode cX5_give 19 = .ok (.ldc 44, 2) := by decide +kernel
theorem dX5_give_21 : decode cX5_give 21 = .ok (.ireturn, 1) := by decide +kernel
theorem dX5_give_22 : decode cX5_give 22 = .ok (.aload_n 0, 1) := by decide +kernel
theorem dX5_give_23 : decode cX5_give 23 = .ok (.getfield 10, 3) := by decide +kernel
theorem dX5_give_26 : decode cX5_give 26 = .ok (.getfield 61, 3) := by decide +kernel
theorem dX5_give_29 : decode cX5_give 29 = .ok (.iload_n 1, 1) := by decide +kernel
theorem dX5_give_30 : decode cX5_give 30 = .ok (.aaload, 1) := by decide +kernel
theorem dX5_give_31 : decode cX5_give 31 = .ok (.astore_n 3, 1) := by decide +kernel
theorem dX5_give_32 : decode cX5_give 32 = .ok (.aload_n 3, 1) := by decide +kernel
theorem dX5_give_33 : decode cX5_give 33 = .ok (.getfield 96, 3) := by decide +kernel
theorem dX5_give_36 : decode cX5_give 36 = .ok (.iload_n 2, 1) := by decide +kernel
theorem dX5_give_37 : decode cX5_give 37 = .ok (.iadd, 1) := by decide +kernel
theorem dX5_give_38 : decode cX5_give 38 = .ok (.ldc 99, 2) := by decide +kernel
theorem dX5_give_40 : decode cX5_give 40 = .ok (.if_icmp .le 6, 3) := by decide +kernel
theorem dX5_give_43 : decode cX5_give 43 = .ok (.ldc 60, 2) := by decide +kernel
theorem dX5_give_45 : decode cX5_give 45 = .ok (.ireturn, 1) := by decide +kernel
theorem dX5_give_46 : decode cX5_give 46 = .ok (.aload_n 0, 1) := by decide +kernel
theorem dX5_give_47 : decode cX5_give 47 = .ok (.getfield 22, 3) := by decide +kernel
theorem dX5_give_50 : decode cX5_give 50 = .ok (.aload_n 0, 1) := by decide +kernel
theorem dX5_give_51 : decode cX5_give 51 = .ok (.getfield 10, 3) := by decide +kernel
theorem dX5_give_54 : decode cX5_give 54 = .ok (.invokevirtual 45, 3) := by decide +kernel
theorem dX5_give_57 : decode cX5_give 57 = .ok (.aload_n 3, 1) := by decide +kernel
theorem dX5_give_58 : decode cX5_give 58 = .ok (.dup, 1) := by decide +kernel
theorem dX5_give_59 : decode cX5_give 59 = .ok (.getfield 96, 3) := by decide +kernel
theorem dX5_give_62 : decode cX5_give 62 = .ok (.iload_n 2, 1) := by decide +kernel
theorem dX5_give_63 : decode cX5_give 63 = .ok (.iadd, 1) := by decide +kernel
theorem dX5_give_64 : decode cX5_give 64 = .ok (.putfield 96, 3) := by decide +kernel
theorem dX5_give_67 : decode cX5_give 67 = .ok (.aload_n 3, 1) := by decide +kernel
theorem dX5_give_68 : decode cX5_give 68 = .ok (.getfield 96, 3) := by decide +kernel
theorem dX5_give_71 : decode cX5_give 71 = .ok (.ireturn, 1) := by decide +kernel
theorem dX5_lend_0 : decode cX5_lend 0 = .ok (.aload_n 0, 1) := by decide +kernel
theorem dX5_lend_1 : decode cX5_lend 1 = .ok (.iload_n 1, 1) := by decide +kernel
theorem dX5_lend_2 : decode cX5_lend 2 = .ok (.invokevirtual 71, 3) := by decide +kernel
theorem dX5_lend_5 : decode cX5_lend 5 = .ok (.ifCond .eq 27, 3) := by decide +kernel
theorem dX5_lend_8 : decode cX5_lend 8 = .ok (.aload_n 0, 1) := by decide +kernel
theorem dX5_lend_9 : decode cX5_lend 9 = .ok (.iload_n 2, 1) := by decide +kernel
theorem dX5_lend_10 : decode cX5_lend 10 = .ok (.invokevirtual 71, 3) := by decide +kernel
theorem dX5_lend_13 : decode cX5_lend 13 = .ok (.ifCond .eq 19, 3) := by decide +kernel
theorem dX5_lend_16 : decode cX5_lend 16 = .ok (.iload_n 1, 1) := by decide +kernel
theorem dX5_lend_17 : decode cX5_lend 17 = .ok (.iload_n 2, 1) := by decide +kernel
theorem dX5_lend_18 : decode cX5_lend 18 = .ok (.if_icmp .eq 14, 3) := by decide +kernel
theorem dX5_lend_21 : decode cX5_lend 21 = .ok (.iload_n 3, 1) := by decide +kernel
theorem dX5_lend_22 : decode cX5_lend 22 = .ok (.iconst 1, 1) := by decide +kernel
theorem dX5_lend_23 : decode cX5_lend 23 = .ok (.sipush 9999, 3) := by decide +kernel
theorem dX5_lend_26 : decode cX5_lend 26 = .ok (.invokestatic 33, 3) := by decide +kernel
theorem dX5_lend_29 : decode cX5_lend 29 = .ok (.ifCond .ne 6, 3) := by decide +kernel
theorem dX5_lend_32 : decode cX5_lend 32 = .ok (.ldc 44, 2) := by decide +kernel
theorem dX5_lend_34 : decode cX5_lend 34 = .ok (.ireturn, 1) := by decide +kernel
theorem dX5_lend_35 : decode cX5_lend 35 = .ok (.aload_n 0, 1) := by decide +kernel
theorem dX5_lend_36 : decode cX5_lend 36 = .ok (.getfield 10, 3) := by decide +kernel
theorem dX5_lend_39 : decode cX5_lend 39 = .ok (.getfield 61, 3) := by decide +kernel
theorem dX5_lend_42 : decode cX5_lend 42 = .ok (.iload_n 1, 1) := by decide +kernel
theorem dX5_lend_43 : decode cX5_lend 43 = .ok (.aaload, 1) := by decide +kernel
theorem dX5_lend_44 : decode cX5_lend 44 = .ok (.getfield 96, 3) := by decide +kernel
theorem dX5_lend_47 : decode cX5_lend 47 = .ok (.iload_n 3, 1) := by decide +kernel
theorem dX5_lend_48 : decode cX5_lend 48 = .ok (.if_icmp .ge 6, 3) := by decide +kernel
theorem dX5_lend_51 : decode cX5_lend 51 = .ok (.ldc 83, 2) := by decide +kernel
theorem dX5_lend_53 : decode cX5_lend 53 = .ok (.ireturn, 1) := by decide +kernel
theorem dX5_lend_54 : decode cX5_lend 54 = .ok (.aload_n 0, 1) := by decide +kernel
theorem dX5_lend_55 : decode cX5_lend 55 = .ok (.getfield 10, 3) := by decide +kernel
theorem dX5_lend_58 : decode cX5_lend 58 = .ok (.getfield 100, 3) := by decide +kernel
theorem dX5_lend_61 : decode cX5_lend 61 = .ok (.bipush 8, 2) := by decide +kernel
theorem dX5_lend_63 : decode cX5_lend 63 = .ok (.if_icmp .lt 6, 3) := by decide +kernel
theorem dX5_lend_66 : decode cX5_lend 66 = .ok (.ldc 60, 2) := by decide +kernel
theorem dX5_lend_68 : decode cX5_lend 68 = .ok (.ireturn, 1) := by decide +kernel
theorem dX5_lend_69 : decode cX5_lend 69 = .ok (.aload_n 0, 1) := by decide +kernel
theorem dX5_lend_70 : decode cX5_lend 70 = .ok (.getfield 22, 3) := by decide +kernel
theorem dX5_lend_73 : decode cX5_lend 73 = .ok (.aload_n 0, 1) := by decide +kernel
theorem dX5_lend_74 : decode cX5_lend 74 = .ok (.getfield 10, 3) := by decide +kernel
theorem dX5_lend_77 : decode cX5_lend 77 = .ok (.invokevirtual 45, 3) := by decide +kernel
theorem dX5_lend_80 : decode cX5_lend 80 = .ok (.aload_n 0, 1) := by decide +kernel
theorem dX5_lend_81 : decode cX5_lend 81 = .ok (.getfield 10, 3) := by decide +kernel
theorem dX5_lend_84 : decode cX5_lend 84 = .ok (.iload_n 1, 1) := by decide +kernel
theorem dX5_lend_85 : decode cX5_lend 85 = .ok (.iload_n 2, 1) := by decide +kernel
theorem dX5_lend_86 : decode cX5_lend 86 = .ok (.iload_n 3, 1) := by decide +kernel
theorem dX5_lend_87 : decode cX5_lend 87 = .ok (.invokevirtual 103, 3) := by decide +kernel
theorem dX5_lend_90 : decode cX5_lend 90 = .ok (.ireturn, 1) := by decide +kernel
theorem dX5_branch_0 : decode cX5_branch 0 = .ok (.iload_n 1, 1) := by decide +kernel
theorem dX5_branch_1 : decode cX5_branch 1 = .ok (.invokestatic 107, 3) := by decide +kernel
theorem dX5_branch_4 : decode cX5_branch 4 = .ok (.ifCond .eq 12, 3) := by decide +kernel
theorem dX5_branch_7 : decode cX5_branch 7 = .ok (.iload_n 2, 1) := by decide +kernel
theorem dX5_branch_8 : decode cX5_branch 8 = .ok (.iconst 0, 1) := by decide +kernel
theorem dX5_branch_9 : decode cX5_branch 9 = .ok (.iconst 1, 1) := by decide +kernel
theorem dX5_branch_10 : decode cX5_branch 10 = .ok (.invokestatic 33, 3) := by decide +kernel
theorem dX5_branch_13 : decode cX5_branch 13 = .ok (.ifCond .ne 6, 3) := by decide +kernel
theorem dX5_branch_16 : decode cX5_branch 16 = .ok (.ldc 44, 2) := by decide +kernel
theorem dX5_branch_18 : decode cX5_branch 18 = .ok (.ireturn, 1) := by decide +kernel
theorem dX5_branch_19 : decode cX5_branch 19 = .ok (.aload_n 0, 1) := by decide +kernel
theorem dX5_branch_20 : decode cX5_branch 20 = .ok (.getfield 22, 3) := by decide +kernel
theorem dX5_branch_23 : decode cX5_branch 23 = .ok (.aload_n 0, 1) := by decide +kernel
theorem dX5_branch_24 : decode cX5_branch 24 = .ok (.getfield 10, 3) := by decide +kernel
theorem dX5_branch_27 : decode cX5_branch 27 = .ok (.invokevirtual 45, 3) := by decide +kernel
theorem dX5_branch_30 : decode cX5_branch 30 = .ok (.aload_n 0, 1) := by decide +kernel
theorem dX5_branch_31 : decode cX5_branch 31 = .ok (.getfield 10, 3) := by decide +kernel
theorem dX5_branch_34 : decode cX5_branch 34 = .ok (.iload_n 1, 1) := by decide +kernel
theorem dX5_branch_35 : decode cX5_branch 35 = .ok (.iload_n 2, 1) := by decide +kernel
theorem dX5_branch_36 : decode cX5_branch 36 = .ok (.invokevirtual 110, 3) := by decide +kernel
theorem dX5_branch_39 : decode cX5_branch 39 = .ok (.ireturn, 1) := by decide +kernel
theorem dX5_oracleOf_0 : decode cX5_oracleOf 0 = .ok (.aload_n 0, 1) := by decide +kernel
theorem dX5_oracleOf_1 : decode cX5_oracleOf 1 = .ok (.iload_n 1, 1) := by decide +kernel
theorem dX5_oracleOf_2 : decode cX5_oracleOf 2 = .ok (.invokevirtual 71, 3) := by decide +kernel
theorem dX5_oracleOf_5 : decode cX5_oracleOf 5 = .ok (.ifCond .eq 13, 3) := by decide +kernel
theorem dX5_oracleOf_8 : decode cX5_oracleOf 8 = .ok (.iload_n 2, 1) := by decide +kernel
theorem dX5_oracleOf_9 : decode cX5_oracleOf 9 = .ok (.iconst 0, 1) := by decide +kernel
theorem dX5_oracleOf_10 : decode cX5_oracleOf 10 = .ok (.bipush 10, 2) := by decide +kernel
theorem dX5_oracleOf_12 : decode cX5_oracleOf 12 = .ok (.invokestatic 33, 3) := by decide +kernel
theorem dX5_oracleOf_15 : decode cX5_oracleOf 15 = .ok (.ifCond .ne 6, 3) := by decide +kernel
theorem dX5_oracleOf_18 : decode cX5_oracleOf 18 = .ok (.ldc 44, 2) := by decide +kernel
theorem dX5_oracleOf_20 : decode cX5_oracleOf 20 = .ok (.ireturn, 1) := by decide +kernel
theorem dX5_oracleOf_21 : decode cX5_oracleOf 21 = .ok (.aload_n 0, 1) := by decide +kernel
theorem dX5_oracleOf_22 : decode cX5_oracleOf 22 = .ok (.getfield 10, 3) := by decide +kernel
theorem dX5_oracleOf_25 : decode cX5_oracleOf 25 = .ok (.getfield 61, 3) := by decide +kernel
theorem dX5_oracleOf_28 : decode cX5_oracleOf 28 = .ok (.iload_n 1, 1) := by decide +kernel
theorem dX5_oracleOf_29 : decode cX5_oracleOf 29 = .ok (.aaload, 1) := by decide +kernel
theorem dX5_oracleOf_30 : decode cX5_oracleOf 30 = .ok (.astore_n 3, 1) := by decide +kernel
theorem dX5_oracleOf_31 : decode cX5_oracleOf 31 = .ok (.iload_n 2, 1) := by decide +kernel
theorem dX5_oracleOf_32 : decode cX5_oracleOf 32 = .ok (.tableswitch 134 0 9 #[56, 61, 66, 71, 88, 105, 110, 115, 120, 125], 56) := by decide +kernel
theorem dX5_oracleOf_88 : decode cX5_oracleOf 88 = .ok (.aload_n 3, 1) := by decide +kernel
theorem dX5_oracleOf_89 : decode cX5_oracleOf 89 = .ok (.getfield 114, 3) := by decide +kernel
theorem dX5_oracleOf_92 : decode cX5_oracleOf 92 = .ok (.ireturn, 1) := by decide +kernel
theorem dX5_oracleOf_93 : decode cX5_oracleOf 93 = .ok (.aload_n 3, 1) := by decide +kernel
theorem dX5_oracleOf_94 : decode cX5_oracleOf 94 = .ok (.getfield 117, 3) := by decide +kernel
theorem dX5_oracleOf_97 : decode cX5_oracleOf 97 = .ok (.ireturn, 1) := by decide +kernel
theorem dX5_oracleOf_98 : decode cX5_oracleOf 98 = .ok (.aload_n 3, 1) := by decide +kernel
theorem dX5_oracleOf_99 : decode cX5_oracleOf 99 = .ok (.getfield 96, 3) := by decide +kernel
theorem dX5_oracleOf_102 : decode cX5_oracleOf 102 = .ok (.ireturn, 1) := by decide +kernel
theorem dX5_oracleOf_103 : decode cX5_oracleOf 103 = .ok (.aload_n 3, 1) := by decide +kernel
theorem dX5_oracleOf_104 : decode cX5_oracleOf 104 = .ok (.invokevirtual 75, 3) := by decide +kernel
theorem dX5_oracleOf_107 : decode cX5_oracleOf 107 = .ok (.ifCond .eq 10, 3) := by decide +kernel
theorem dX5_oracleOf_110 : decode cX5_oracleOf 110 = .ok (.aload_n 3, 1) := by decide +kernel
theorem dX5_oracleOf_111 : decode cX5_oracleOf 111 = .ok (.getfield 87, 3) := by decide +kernel
theorem dX5_oracleOf_114 : decode cX5_oracleOf 114 = .ok (.goto 5, 3) := by decide +kernel
theorem dX5_oracleOf_117 : decode cX5_oracleOf 117 = .ok (.ldc 120, 2) := by decide +kernel
theorem dX5_oracleOf_119 : decode cX5_oracleOf 119 = .ok (.ireturn, 1) := by decide +kernel
theorem dX5_oracleOf_120 : decode cX5_oracleOf 120 = .ok (.aload_n 3, 1) := by decide +kernel
theorem dX5_oracleOf_121 : decode cX5_oracleOf 121 = .ok (.invokevirtual 75, 3) := by decide +kernel
theorem dX5_oracleOf_124 : decode cX5_oracleOf 124 = .ok (.ifCond .eq 10, 3) := by decide +kernel
theorem dX5_oracleOf_127 : decode cX5_oracleOf 127 = .ok (.aload_n 3, 1) := by decide +kernel
theorem dX5_oracleOf_128 : decode cX5_oracleOf 128 = .ok (.getfield 90, 3) := by decide +kernel
theorem dX5_oracleOf_131 : decode cX5_oracleOf 131 = .ok (.goto 5, 3) := by decide +kernel
theorem dX5_oracleOf_134 : decode cX5_oracleOf 134 = .ok (.ldc 120, 2) := by decide +kernel
theorem dX5_oracleOf_136 : decode cX5_oracleOf 136 = .ok (.ireturn, 1) := by decide +kernel
theorem dX5_oracleOf_137 : decode cX5_oracleOf 137 = .ok (.aload_n 3, 1) := by decide +kernel
theorem dX5_oracleOf_138 : decode cX5_oracleOf 138 = .ok (.getfield 121, 3) := by decide +kernel
theorem dX5_oracleOf_141 : decode cX5_oracleOf 141 = .ok (.ireturn, 1) := by decide +kernel
theorem dX5_oracleOf_142 : decode cX5_oracleOf 142 = .ok (.aload_n 3, 1) := by decide +kernel
theorem dX5_oracleOf_143 : decode cX5_oracleOf 143 = .ok (.getfield 124, 3) := by decide +kernel
theorem dX5_oracleOf_146 : decode cX5_oracleOf 146 = .ok (.ireturn, 1) := by decide +kernel
theorem dX5_oracleOf_147 : decode cX5_oracleOf 147 = .ok (.aload_n 3, 1) := by decide +kernel
theorem dX5_oracleOf_148 : decode cX5_oracleOf 148 = .ok (.getfield 127, 3) := by decide +kernel
theorem dX5_oracleOf_151 : decode cX5_oracleOf 151 = .ok (.ireturn, 1) := by decide +kernel
theorem dX5_oracleOf_152 : decode cX5_oracleOf 152 = .ok (.aload_n 3, 1) := by decide +kernel
theorem dX5_oracleOf_153 : decode cX5_oracleOf 153 = .ok (.getfield 130, 3) := by decide +kernel
theorem dX5_oracleOf_156 : decode cX5_oracleOf 156 = .ok (.ireturn, 1) := by decide +kernel
theorem dX5_oracleOf_157 : decode cX5_oracleOf 157 = .ok (.aload_n 0, 1) := by decide +kernel
theorem dX5_oracleOf_158 : decode cX5_oracleOf 158 = .ok (.getfield 10, 3) := by decide +kernel
theorem dX5_oracleOf_161 : decode cX5_oracleOf 161 = .ok (.iload_n 1, 1) := by decide +kernel
theorem dX5_oracleOf_162 : decode cX5_oracleOf 162 = .ok (.invokevirtual 133, 3) := by decide +kernel
theorem dX5_oracleOf_165 : decode cX5_oracleOf 165 = .ok (.ireturn, 1) := by decide +kernel
theorem dX5_oracleOf_166 : decode cX5_oracleOf 166 = .ok (.aload_n 0, 1) := by decide +kernel
theorem dX5_oracleOf_167 : decode cX5_oracleOf 167 = .ok (.getfield 10, 3) := by decide +kernel
theorem dX5_oracleOf_170 : decode cX5_oracleOf 170 = .ok (.iload_n 1, 1) := by decide +kernel
theorem dX5_oracleOf_171 : decode cX5_oracleOf 171 = .ok (.invokevirtual 136, 3) := by decide +kernel
theorem dX5_oracleOf_174 : decode cX5_oracleOf 174 = .ok (.ireturn, 1) := by decide +kernel
theorem dX5_counter_0 : decode cX5_counter 0 = .ok (.aload_n 0, 1) := by decide +kernel
theorem dX5_counter_1 : decode cX5_counter 1 = .ok (.iload_n 1, 1) := by decide +kernel
theorem dX5_counter_2 : decode cX5_counter 2 = .ok (.invokevirtual 71, 3) := by decide +kernel
theorem dX5_counter_5 : decode cX5_counter 5 = .ok (.ifCond .eq 7, 3) := by decide +kernel
theorem dX5_counter_8 : decode cX5_counter 8 = .ok (.iload_n 2, 1) := by decide +kernel
theorem dX5_counter_9 : decode cX5_counter 9 = .ok (.ifCond .ge 6, 3) := by decide +kernel
theorem dX5_counter_12 : decode cX5_counter 12 = .ok (.ldc 44, 2) := by decide +kernel
theorem dX5_counter_14 : decode cX5_counter 14 = .ok (.ireturn, 1) := by decide +kernel
theorem dX5_counter_15 : decode cX5_counter 15 = .ok (.aload_n 0, 1) := by decide +kernel
theorem dX5_counter_16 : decode cX5_counter 16 = .ok (.getfield 10, 3) := by decide +kernel
theorem dX5_counter_19 : decode cX5_counter 19 = .ok (.getfield 61, 3) := by decide +kernel
theorem dX5_counter_22 : decode cX5_counter 22 = .ok (.iload_n 1, 1) := by decide +kernel
theorem dX5_counter_23 : decode cX5_counter 23 = .ok (.aaload, 1) := by decide +kernel
theorem dX5_counter_24 : decode cX5_counter 24 = .ok (.astore_n 3, 1) := by decide +kernel
theorem dX5_counter_25 : decode cX5_counter 25 = .ok (.iload_n 2, 1) := by decide +kernel
theorem dX5_counter_26 : decode cX5_counter 26 = .ok (.aload_n 3, 1) := by decide +kernel
theorem dX5_counter_27 : decode cX5_counter 27 = .ok (.invokevirtual 139, 3) := by decide +kernel
theorem dX5_counter_30 : decode cX5_counter 30 = .ok (.if_icmp .ge 12, 3) := by decide +kernel
theorem dX5_counter_33 : decode cX5_counter 33 = .ok (.aload_n 3, 1) := by decide +kernel
theorem dX5_counter_34 : decode cX5_counter 34 = .ok (.getfield 143, 3) := by decide +kernel
theorem dX5_counter_37 : decode cX5_counter 37 = .ok (.iload_n 2, 1) := by decide +kernel
theorem dX5_counter_38 : decode cX5_counter 38 = .ok (.iaload, 1) := by decide +kernel
theorem dX5_counter_39 : decode cX5_counter 39 = .ok (.goto 5, 3) := by decide +kernel
theorem dX5_counter_42 : decode cX5_counter 42 = .ok (.ldc 120, 2) := by decide +kernel
theorem dX5_counter_44 : decode cX5_counter 44 = .ok (.ireturn, 1) := by decide +kernel
theorem dX5_loanOf_0 : decode cX5_loanOf 0 = .ok (.iload_n 1, 1) := by decide +kernel
theorem dX5_loanOf_1 : decode cX5_loanOf 1 = .ok (.iconst 0, 1) := by decide +kernel
theorem dX5_loanOf_2 : decode cX5_loanOf 2 = .ok (.aload_n 0, 1) := by decide +kernel
theorem dX5_loanOf_3 : decode cX5_loanOf 3 = .ok (.getfield 10, 3) := by decide +kernel
theorem dX5_loanOf_6 : decode cX5_loanOf 6 = .ok (.getfield 100, 3) := by decide +kernel
theorem dX5_loanOf_9 : decode cX5_loanOf 9 = .ok (.iconst 1, 1) := by decide +kernel
theorem dX5_loanOf_10 : decode cX5_loanOf 10 = .ok (.isub, 1) := by decide +kernel
theorem dX5_loanOf_11 : decode cX5_loanOf 11 = .ok (.invokestatic 33, 3) := by decide +kernel
theorem dX5_loanOf_14 : decode cX5_loanOf 14 = .ok (.ifCond .eq 12, 3) := by decide +kernel
theorem dX5_loanOf_17 : decode cX5_loanOf 17 = .ok (.iload_n 2, 1) := by decide +kernel
theorem dX5_loanOf_18 : decode cX5_loanOf 18 = .ok (.iconst 0, 1) := by decide +kernel
theorem dX5_loanOf_19 : decode cX5_loanOf 19 = .ok (.iconst 2, 1) := by decide +kernel
theorem dX5_loanOf_20 : decode cX5_loanOf 20 = .ok (.invokestatic 33, 3) := by decide +kernel
theorem dX5_loanOf_23 : decode cX5_loanOf 23 = .ok (.ifCond .ne 6, 3) := by decide +kernel
theorem dX5_loanOf_26 : decode cX5_loanOf 26 = .ok (.ldc 44, 2) := by decide +kernel
theorem dX5_loanOf_28 : decode cX5_loanOf 28 = .ok (.ireturn, 1) := by decide +kernel
theorem dX5_loanOf_29 : decode cX5_loanOf 29 = .ok (.aload_n 0, 1) := by decide +kernel
theorem dX5_loanOf_30 : decode cX5_loanOf 30 = .ok (.getfield 10, 3) := by decide +kernel
theorem dX5_loanOf_33 : decode cX5_loanOf 33 = .ok (.getfield 146, 3) := by decide +kernel
theorem dX5_loanOf_36 : decode cX5_loanOf 36 = .ok (.iload_n 1, 1) := by decide +kernel
theorem dX5_loanOf_37 : decode cX5_loanOf 37 = .ok (.aaload, 1) := by decide +kernel
theorem dX5_loanOf_38 : decode cX5_loanOf 38 = .ok (.astore_n 3, 1) := by decide +kernel
theorem dX5_loanOf_39 : decode cX5_loanOf 39 = .ok (.iload_n 2, 1) := by decide +kernel
theorem dX5_loanOf_40 : decode cX5_loanOf 40 = .ok (.lookupswitch 38 #[(0, 28), (1, 33)], 28) := by decide +kernel
theorem dX5_loanOf_68 : decode cX5_loanOf 68 = .ok (.aload_n 3, 1) := by decide +kernel
theorem dX5_loanOf_69 : decode cX5_loanOf 69 = .ok (.getfield 150, 3) := by decide +kernel
theorem dX5_loanOf_72 : decode cX5_loanOf 72 = .ok (.ireturn, 1) := by decide +kernel
theorem dX5_loanOf_73 : decode cX5_loanOf 73 = .ok (.aload_n 3, 1) := by decide +kernel
theorem dX5_loanOf_74 : decode cX5_loanOf 74 = .ok (.getfield 155, 3) := by decide +kernel
theorem dX5_loanOf_77 : decode cX5_loanOf 77 = .ok (.ireturn, 1) := by decide +kernel
theorem dX5_loanOf_78 : decode cX5_loanOf 78 = .ok (.aload_n 3, 1) := by decide +kernel
theorem dX5_loanOf_79 : decode cX5_loanOf 79 = .ok (.getfield 158, 3) := by decide +kernel
theorem dX5_loanOf_82 : decode cX5_loanOf 82 = .ok (.ireturn, 1) := by decide +kernel
theorem dX5_aliases_0 : decode cX5_aliases 0 = .ok (.aload_n 0, 1) := by decide +kernel
theorem dX5_aliases_1 : decode cX5_aliases 1 = .ok (.iload_n 1, 1) := by decide +kernel
theorem dX5_aliases_2 : decode cX5_aliases 2 = .ok (.invokevirtual 71, 3) := by decide +kernel
theorem dX5_aliases_5 : decode cX5_aliases 5 = .ok (.ifCond .eq 10, 3) := by decide +kernel
theorem dX5_aliases_8 : decode cX5_aliases 8 = .ok (.iload_n 2, 1) := by decide +kernel
theorem dX5_aliases_9 : decode cX5_aliases 9 = .ok (.invokestatic 107, 3) := by decide +kernel
theorem dX5_aliases_12 : decode cX5_aliases 12 = .ok (.ifCond .ne 6, 3) := by decide +kernel
theorem dX5_aliases_15 : decode cX5_aliases 15 = .ok (.ldc 44, 2) := by decide +kernel
theorem dX5_aliases_17 : decode cX5_aliases 17 = .ok (.ireturn, 1) := by decide +kernel
theorem dX5_aliases_18 : decode cX5_aliases 18 = .ok (.aload_n 0, 1) := by decide +kernel
theorem dX5_aliases_19 : decode cX5_aliases 19 = .ok (.getfield 10, 3) := by decide +kernel
theorem dX5_aliases_22 : decode cX5_aliases 22 = .ok (.getfield 61, 3) := by decide +kernel
theorem dX5_aliases_25 : decode cX5_aliases 25 = .ok (.iload_n 1, 1) := by decide +kernel
theorem dX5_aliases_26 : decode cX5_aliases 26 = .ok (.aaload, 1) := by decide +kernel
theorem dX5_aliases_27 : decode cX5_aliases 27 = .ok (.astore_n 3, 1) := by decide +kernel
theorem dX5_aliases_28 : decode cX5_aliases 28 = .ok (.aload_n 3, 1) := by decide +kernel
theorem dX5_aliases_29 : decode cX5_aliases 29 = .ok (.invokevirtual 161, 3) := by decide +kernel
theorem dX5_aliases_32 : decode cX5_aliases 32 = .ok (.ifCond .ne 6, 3) := by decide +kernel
theorem dX5_aliases_35 : decode cX5_aliases 35 = .ok (.ldc 120, 2) := by decide +kernel
theorem dX5_aliases_37 : decode cX5_aliases 37 = .ok (.ireturn, 1) := by decide +kernel
theorem dX5_aliases_38 : decode cX5_aliases 38 = .ok (.aload_n 3, 1) := by decide +kernel
theorem dX5_aliases_39 : decode cX5_aliases 39 = .ok (.iload_n 2, 1) := by decide +kernel
theorem dX5_aliases_40 : decode cX5_aliases 40 = .ok (.aload_n 0, 1) := by decide +kernel
theorem dX5_aliases_41 : decode cX5_aliases 41 = .ok (.getfield 10, 3) := by decide +kernel
theorem dX5_aliases_44 : decode cX5_aliases 44 = .ok (.getfield 164, 3) := by decide +kernel
theorem dX5_aliases_47 : decode cX5_aliases 47 = .ok (.invokevirtual 167, 3) := by decide +kernel
theorem dX5_aliases_50 : decode cX5_aliases 50 = .ok (.istore 4, 2) := by decide +kernel
theorem dX5_aliases_52 : decode cX5_aliases 52 = .ok (.iconst 0, 1) := by decide +kernel
theorem dX5_aliases_53 : decode cX5_aliases 53 = .ok (.istore 5, 2) := by decide +kernel
theorem dX5_aliases_55 : decode cX5_aliases 55 = .ok (.iconst 0, 1) := by decide +kernel
theorem dX5_aliases_56 : decode cX5_aliases 56 = .ok (.istore 6, 2) := by decide +kernel
theorem dX5_aliases_58 : decode cX5_aliases 58 = .ok (.iload 6, 2) := by decide +kernel
theorem dX5_aliases_60 : decode cX5_aliases 60 = .ok (.bipush 64, 2) := by decide +kernel
theorem dX5_aliases_62 : decode cX5_aliases 62 = .ok (.if_icmp .ge 48, 3) := by decide +kernel
theorem dX5_aliases_65 : decode cX5_aliases 65 = .ok (.iload 6, 2) := by decide +kernel
theorem dX5_aliases_67 : decode cX5_aliases 67 = .ok (.iload_n 2, 1) := by decide +kernel
theorem dX5_aliases_68 : decode cX5_aliases 68 = .ok (.if_icmp .eq 36, 3) := by decide +kernel
theorem dX5_aliases_71 : decode cX5_aliases 71 = .ok (.aload_n 0, 1) := by decide +kernel
theorem dX5_aliases_72 : decode cX5_aliases 72 = .ok (.getfield 10, 3) := by decide +kernel
theorem dX5_aliases_75 : decode cX5_aliases 75 = .ok (.iload 6, 2) := by decide +kernel
theorem dX5_aliases_77 : decode cX5_aliases 77 = .ok (.invokevirtual 170, 3) := by decide +kernel
theorem dX5_aliases_80 : decode cX5_aliases 80 = .ok (.ifCond .eq 24, 3) := by decide +kernel
theorem dX5_aliases_83 : decode cX5_aliases 83 = .ok (.aload_n 3, 1) := by decide +kernel
theorem dX5_aliases_84 : decode cX5_aliases 84 = .ok (.iload 6, 2) := by decide +kernel
theorem dX5_aliases_86 : decode cX5_aliases 86 = .ok (.aload_n 0, 1) := by decide +kernel
theorem dX5_aliases_87 : decode cX5_aliases 87 = .ok (.getfield 10, 3) := by decide +kernel
theorem dX5_aliases_90 : decode cX5_aliases 90 = .ok (.getfield 164, 3) := by decide +kernel
theorem dX5_aliases_93 : decode cX5_aliases 93 = .ok (.invokevirtual 167, 3) := by decide +kernel
theorem dX5_aliases_96 : decode cX5_aliases 96 = .ok (.iload 4, 2) := by decide +kernel
theorem dX5_aliases_98 : decode cX5_aliases 98 = .ok (.if_icmp .ne 6, 3) := by decide +kernel
theorem dX5_aliases_101 : decode cX5_aliases 101 = .ok (.iinc 5 1, 3) := by decide +kernel
theorem dX5_aliases_104 : decode cX5_aliases 104 = .ok (.iinc 6 1, 3) := by decide +kernel
theorem dX5_aliases_107 : decode cX5_aliases 107 = .ok (.goto (-49), 3) := by decide +kernel
theorem dX5_aliases_110 : decode cX5_aliases 110 = .ok (.iload 5, 2) := by decide +kernel
theorem dX5_aliases_112 : decode cX5_aliases 112 = .ok (.ireturn, 1) := by decide +kernel
theorem dX5_share_0 : decode cX5_share 0 = .ok (.aload_n 0, 1) := by decide +kernel
theorem dX5_share_1 : decode cX5_share 1 = .ok (.iload_n 1, 1) := by decide +kernel
theorem dX5_share_2 : decode cX5_share 2 = .ok (.invokevirtual 71, 3) := by decide +kernel
theorem dX5_share_5 : decode cX5_share 5 = .ok (.ifCond .ne 6, 3) := by decide +kernel
theorem dX5_share_8 : decode cX5_share 8 = .ok (.ldc 44, 2) := by decide +kernel
theorem dX5_share_10 : decode cX5_share 10 = .ok (.ireturn, 1) := by decide +kernel
theorem dX5_share_11 : decode cX5_share 11 = .ok (.aload_n 0, 1) := by decide +kernel
theorem dX5_share_12 : decode cX5_share 12 = .ok (.getfield 10, 3) := by decide +kernel
theorem dX5_share_15 : decode cX5_share 15 = .ok (.getfield 61, 3) := by decide +kernel
theorem dX5_share_18 : decode cX5_share 18 = .ok (.iload_n 1, 1) := by decide +kernel
theorem dX5_share_19 : decode cX5_share 19 = .ok (.aaload, 1) := by decide +kernel
theorem dX5_share_20 : decode cX5_share 20 = .ok (.astore_n 2, 1) := by decide +kernel
theorem dX5_share_21 : decode cX5_share 21 = .ok (.aload_n 2, 1) := by decide +kernel
theorem dX5_share_22 : decode cX5_share 22 = .ok (.getfield 121, 3) := by decide +kernel
theorem dX5_share_25 : decode cX5_share 25 = .ok (.aload_n 2, 1) := by decide +kernel
theorem dX5_share_26 : decode cX5_share 26 = .ok (.getfield 124, 3) := by decide +kernel
theorem dX5_share_29 : decode cX5_share 29 = .ok (.iadd, 1) := by decide +kernel
theorem dX5_share_30 : decode cX5_share 30 = .ok (.istore_n 3, 1) := by decide +kernel
theorem dX5_share_31 : decode cX5_share 31 = .ok (.iload_n 3, 1) := by decide +kernel
theorem dX5_share_32 : decode cX5_share 32 = .ok (.ifCond .le 14, 3) := by decide +kernel
theorem dX5_share_35 : decode cX5_share 35 = .ok (.aload_n 2, 1) := by decide +kernel
theorem dX5_share_36 : decode cX5_share 36 = .ok (.getfield 121, 3) := by decide +kernel
theorem dX5_share_39 : decode cX5_share 39 = .ok (.iload_n 3, 1) := by decide +kernel
theorem dX5_share_40 : decode cX5_share 40 = .ok (.invokestatic 173, 3) := by decide +kernel
theorem dX5_share_43 : decode cX5_share 43 = .ok (.goto 5, 3) := by decide +kernel
theorem dX5_share_46 : decode cX5_share 46 = .ok (.ldc 120, 2) := by decide +kernel
theorem dX5_share_48 : decode cX5_share 48 = .ok (.ireturn, 1) := by decide +kernel
theorem dX5_rich_0 : decode cX5_rich 0 = .ok (.iload_n 1, 1) := by decide +kernel
theorem dX5_rich_1 : decode cX5_rich 1 = .ok (.ifCond .ge 6, 3) := by decide +kernel
theorem dX5_rich_4 : decode cX5_rich 4 = .ok (.ldc 44, 2) := by decide +kernel
theorem dX5_rich_6 : decode cX5_rich 6 = .ok (.ireturn, 1) := by decide +kernel
theorem dX5_rich_7 : decode cX5_rich 7 = .ok (.iconst 0, 1) := by decide +kernel
theorem dX5_rich_8 : decode cX5_rich 8 = .ok (.istore_n 2, 1) := by decide +kernel
theorem dX5_rich_9 : decode cX5_rich 9 = .ok (.iload_n 2, 1) := by decide +kernel
theorem dX5_rich_10 : decode cX5_rich 10 = .ok (.aload_n 0, 1) := by decide +kernel
theorem dX5_rich_11 : decode cX5_rich 11 = .ok (.getfield 10, 3) := by decide +kernel
theorem dX5_rich_14 : decode cX5_rich 14 = .ok (.getfield 56, 3) := by decide +kernel
theorem dX5_rich_17 : decode cX5_rich 17 = .ok (.if_icmp .ge 23, 3) := by decide +kernel
theorem dX5_rich_20 : decode cX5_rich 20 = .ok (.aload_n 0, 1) := by decide +kernel
theorem dX5_rich_21 : decode cX5_rich 21 = .ok (.getfield 10, 3) := by decide +kernel
theorem dX5_rich_24 : decode cX5_rich 24 = .ok (.iload_n 2, 1) := by decide +kernel
theorem dX5_rich_25 : decode cX5_rich 25 = .ok (.invokevirtual 176, 3) := by decide +kernel
theorem dX5_rich_28 : decode cX5_rich 28 = .ok (.iload_n 1, 1) := by decide +kernel
theorem dX5_rich_29 : decode cX5_rich 29 = .ok (.if_icmp .ne 5, 3) := by decide +kernel
theorem dX5_rich_32 : decode cX5_rich 32 = .ok (.iload_n 2, 1) := by decide +kernel
theorem dX5_rich_33 : decode cX5_rich 33 = .ok (.ireturn, 1) := by decide +kernel
theorem dX5_rich_34 : decode cX5_rich 34 = .ok (.iinc 2 1, 3) := by decide +kernel
theorem dX5_rich_37 : decode cX5_rich 37 = .ok (.goto (-28), 3) := by decide +kernel
theorem dX5_rich_40 : decode cX5_rich 40 = .ok (.ldc 120, 2) := by decide +kernel
theorem dX5_rich_42 : decode cX5_rich 42 = .ok (.ireturn, 1) := by decide +kernel
theorem dX5_says_0 : decode cX5_says 0 = .ok (.aload_n 0, 1) := by decide +kernel
theorem dX5_says_1 : decode cX5_says 1 = .ok (.iload_n 1, 1) := by decide +kernel
theorem dX5_says_2 : decode cX5_says 2 = .ok (.invokevirtual 71, 3) := by decide +kernel
theorem dX5_says_5 : decode cX5_says 5 = .ok (.ifCond .eq 10, 3) := by decide +kernel
theorem dX5_says_8 : decode cX5_says 8 = .ok (.iload_n 2, 1) := by decide +kernel
theorem dX5_says_9 : decode cX5_says 9 = .ok (.invokestatic 107, 3) := by decide +kernel
theorem dX5_says_12 : decode cX5_says 12 = .ok (.ifCond .ne 6, 3) := by decide +kernel
theorem dX5_says_15 : decode cX5_says 15 = .ok (.ldc 44, 2) := by decide +kernel
theorem dX5_says_17 : decode cX5_says 17 = .ok (.ireturn, 1) := by decide +kernel
theorem dX5_says_18 : decode cX5_says 18 = .ok (.aload_n 0, 1) := by decide +kernel
theorem dX5_says_19 : decode cX5_says 19 = .ok (.getfield 10, 3) := by decide +kernel
theorem dX5_says_22 : decode cX5_says 22 = .ok (.iload_n 2, 1) := by decide +kernel
theorem dX5_says_23 : decode cX5_says 23 = .ok (.invokevirtual 179, 3) := by decide +kernel
theorem dX5_says_26 : decode cX5_says 26 = .ok (.aload_n 0, 1) := by decide +kernel
theorem dX5_says_27 : decode cX5_says 27 = .ok (.getfield 10, 3) := by decide +kernel
theorem dX5_says_30 : decode cX5_says 30 = .ok (.getfield 61, 3) := by decide +kernel
theorem dX5_says_33 : decode cX5_says 33 = .ok (.iload_n 1, 1) := by decide +kernel
theorem dX5_says_34 : decode cX5_says 34 = .ok (.aaload, 1) := by decide +kernel
theorem dX5_says_35 : decode cX5_says 35 = .ok (.getfield 183, 3) := by decide +kernel
theorem dX5_says_38 : decode cX5_says 38 = .ok (.ireturn, 1) := by decide +kernel
theorem dX5_stake_0 : decode cX5_stake 0 = .ok (.aload_n 0, 1) := by decide +kernel
theorem dX5_stake_1 : decode cX5_stake 1 = .ok (.iload_n 1, 1) := by decide +kernel
theorem dX5_stake_2 : decode cX5_stake 2 = .ok (.invokevirtual 71, 3) := by decide +kernel
theorem dX5_stake_5 : decode cX5_stake 5 = .ok (.ifCond .eq 10, 3) := by decide +kernel
theorem dX5_stake_8 : decode cX5_stake 8 = .ok (.iload_n 2, 1) := by decide +kernel
theorem dX5_stake_9 : decode cX5_stake 9 = .ok (.invokestatic 107, 3) := by decide +kernel
theorem dX5_stake_12 : decode cX5_stake 12 = .ok (.ifCond .ne 6, 3) := by decide +kernel
theorem dX5_stake_15 : decode cX5_stake 15 = .ok (.ldc 44, 2) := by decide +kernel
theorem dX5_stake_17 : decode cX5_stake 17 = .ok (.ireturn, 1) := by decide +kernel
theorem dX5_stake_18 : decode cX5_stake 18 = .ok (.aload_n 0, 1) := by decide +kernel
theorem dX5_stake_19 : decode cX5_stake 19 = .ok (.getfield 10, 3) := by decide +kernel
theorem dX5_stake_22 : decode cX5_stake 22 = .ok (.iload_n 2, 1) := by decide +kernel
theorem dX5_stake_23 : decode cX5_stake 23 = .ok (.invokevirtual 179, 3) := by decide +kernel
theorem dX5_stake_26 : decode cX5_stake 26 = .ok (.aload_n 0, 1) := by decide +kernel
theorem dX5_stake_27 : decode cX5_stake 27 = .ok (.getfield 10, 3) := by decide +kernel
theorem dX5_stake_30 : decode cX5_stake 30 = .ok (.getfield 61, 3) := by decide +kernel
theorem dX5_stake_33 : decode cX5_stake 33 = .ok (.iload_n 1, 1) := by decide +kernel
theorem dX5_stake_34 : decode cX5_stake 34 = .ok (.aaload, 1) := by decide +kernel
theorem dX5_stake_35 : decode cX5_stake 35 = .ok (.getfield 186, 3) := by decide +kernel
theorem dX5_stake_38 : decode cX5_stake 38 = .ok (.ireturn, 1) := by decide +kernel
theorem dX5_odds_0 : decode cX5_odds 0 = .ok (.iload_n 1, 1) := by decide +kernel
theorem dX5_odds_1 : decode cX5_odds 1 = .ok (.invokestatic 107, 3) := by decide +kernel
theorem dX5_odds_4 : decode cX5_odds 4 = .ok (.ifCond .ne 6, 3) := by decide +kernel
theorem dX5_odds_7 : decode cX5_odds 7 = .ok (.ldc 44, 2) := by decide +kernel
theorem dX5_odds_9 : decode cX5_odds 9 = .ok (.ireturn, 1) := by decide +kernel
theorem dX5_odds_10 : decode cX5_odds 10 = .ok (.aload_n 0, 1) := by decide +kernel
theorem dX5_odds_11 : decode cX5_odds 11 = .ok (.getfield 10, 3) := by decide +kernel
theorem dX5_odds_14 : decode cX5_odds 14 = .ok (.iload_n 1, 1) := by decide +kernel
theorem dX5_odds_15 : decode cX5_odds 15 = .ok (.invokevirtual 179, 3) := by decide +kernel
theorem dX5_odds_18 : decode cX5_odds 18 = .ok (.aload_n 0, 1) := by decide +kernel
theorem dX5_odds_19 : decode cX5_odds 19 = .ok (.getfield 10, 3) := by decide +kernel
theorem dX5_odds_22 : decode cX5_odds 22 = .ok (.iconst 1, 1) := by decide +kernel
theorem dX5_odds_23 : decode cX5_odds 23 = .ok (.invokevirtual 189, 3) := by decide +kernel
theorem dX5_odds_26 : decode cX5_odds 26 = .ok (.istore_n 2, 1) := by decide +kernel
theorem dX5_odds_27 : decode cX5_odds 27 = .ok (.iload_n 2, 1) := by decide +kernel
theorem dX5_odds_28 : decode cX5_odds 28 = .ok (.aload_n 0, 1) := by decide +kernel
theorem dX5_odds_29 : decode cX5_odds 29 = .ok (.getfield 10, 3) := by decide +kernel
theorem dX5_odds_32 : decode cX5_odds 32 = .ok (.iconst 0, 1) := by decide +kernel
theorem dX5_odds_33 : decode cX5_odds 33 = .ok (.invokevirtual 189, 3) := by decide +kernel
theorem dX5_odds_36 : decode cX5_odds 36 = .ok (.iadd, 1) := by decide +kernel
theorem dX5_odds_37 : decode cX5_odds 37 = .ok (.istore_n 3, 1) := by decide +kernel
theorem dX5_odds_38 : decode cX5_odds 38 = .ok (.iload_n 3, 1) := by decide +kernel
theorem dX5_odds_39 : decode cX5_odds 39 = .ok (.ifCond .le 11, 3) := by decide +kernel
theorem dX5_odds_42 : decode cX5_odds 42 = .ok (.iload_n 2, 1) := by decide +kernel
theorem dX5_odds_43 : decode cX5_odds 43 = .ok (.iload_n 3, 1) := by decide +kernel
theorem dX5_odds_44 : decode cX5_odds 44 = .ok (.invokestatic 173, 3) := by decide +kernel
theorem dX5_odds_47 : decode cX5_odds 47 = .ok (.goto 5, 3) := by decide +kernel
theorem dX5_odds_50 : decode cX5_odds 50 = .ok (.ldc 120, 2) := by decide +kernel
theorem dX5_odds_52 : decode cX5_odds 52 = .ok (.ireturn, 1) := by decide +kernel
theorem dX5_gain_0 : decode cX5_gain 0 = .ok (.aload_n 0, 1) := by decide +kernel
theorem dX5_gain_1 : decode cX5_gain 1 = .ok (.iload_n 1, 1) := by decide +kernel
theorem dX5_gain_2 : decode cX5_gain 2 = .ok (.invokevirtual 71, 3) := by decide +kernel
theorem dX5_gain_5 : decode cX5_gain 5 = .ok (.ifCond .eq 19, 3) := by decide +kernel
theorem dX5_gain_8 : decode cX5_gain 8 = .ok (.iload_n 2, 1) := by decide +kernel
theorem dX5_gain_9 : decode cX5_gain 9 = .ok (.invokestatic 107, 3) := by decide +kernel
theorem dX5_gain_12 : decode cX5_gain 12 = .ok (.ifCond .eq 12, 3) := by decide +kernel
theorem dX5_gain_15 : decode cX5_gain 15 = .ok (.iload_n 3, 1) := by decide +kernel
theorem dX5_gain_16 : decode cX5_gain 16 = .ok (.iconst 0, 1) := by decide +kernel
theorem dX5_gain_17 : decode cX5_gain 17 = .ok (.iconst 1, 1) := by decide +kernel
theorem dX5_gain_18 : decode cX5_gain 18 = .ok (.invokestatic 33, 3) := by decide +kernel
theorem dX5_gain_21 : decode cX5_gain 21 = .ok (.ifCond .ne 6, 3) := by decide +kernel
theorem dX5_gain_24 : decode cX5_gain 24 = .ok (.ldc 44, 2) := by decide +kernel
theorem dX5_gain_26 : decode cX5_gain 26 = .ok (.ireturn, 1) := by decide +kernel
theorem dX5_gain_27 : decode cX5_gain 27 = .ok (.aload_n 0, 1) := by decide +kernel
theorem dX5_gain_28 : decode cX5_gain 28 = .ok (.getfield 16, 3) := by decide +kernel
theorem dX5_gain_31 : decode cX5_gain 31 = .ok (.aload_n 0, 1) := by decide +kernel
theorem dX5_gain_32 : decode cX5_gain 32 = .ok (.getfield 10, 3) := by decide +kernel
theorem dX5_gain_35 : decode cX5_gain 35 = .ok (.invokevirtual 192, 3) := by decide +kernel
theorem dX5_gain_38 : decode cX5_gain 38 = .ok (.aload_n 0, 1) := by decide +kernel
theorem dX5_gain_39 : decode cX5_gain 39 = .ok (.getfield 16, 3) := by decide +kernel
theorem dX5_gain_42 : decode cX5_gain 42 = .ok (.iload_n 2, 1) := by decide +kernel
theorem dX5_gain_43 : decode cX5_gain 43 = .ok (.iload_n 3, 1) := by decide +kernel
theorem dX5_gain_44 : decode cX5_gain 44 = .ok (.invokevirtual 110, 3) := by decide +kernel
theorem dX5_gain_47 : decode cX5_gain 47 = .ok (.pop, 1) := by decide +kernel
theorem dX5_gain_48 : decode cX5_gain 48 = .ok (.aload_n 0, 1) := by decide +kernel
theorem dX5_gain_49 : decode cX5_gain 49 = .ok (.getfield 16, 3) := by decide +kernel
theorem dX5_gain_52 : decode cX5_gain 52 = .ok (.getfield 61, 3) := by decide +kernel
theorem dX5_gain_55 : decode cX5_gain 55 = .ok (.iload_n 1, 1) := by decide +kernel
theorem dX5_gain_56 : decode cX5_gain 56 = .ok (.aaload, 1) := by decide +kernel
theorem dX5_gain_57 : decode cX5_gain 57 = .ok (.getfield 96, 3) := by decide +kernel
theorem dX5_gain_60 : decode cX5_gain 60 = .ok (.aload_n 0, 1) := by decide +kernel
theorem dX5_gain_61 : decode cX5_gain 61 = .ok (.getfield 10, 3) := by decide +kernel
theorem dX5_gain_64 : decode cX5_gain 64 = .ok (.getfield 61, 3) := by decide +kernel
theorem dX5_gain_67 : decode cX5_gain 67 = .ok (.iload_n 1, 1) := by decide +kernel
theorem dX5_gain_68 : decode cX5_gain 68 = .ok (.aaload, 1) := by decide +kernel
theorem dX5_gain_69 : decode cX5_gain 69 = .ok (.getfield 96, 3) := by decide +kernel
theorem dX5_gain_72 : decode cX5_gain 72 = .ok (.isub, 1) := by decide +kernel
theorem dX5_gain_73 : decode cX5_gain 73 = .ok (.ireturn, 1) := by decide +kernel
theorem dX5_doom_0 : decode cX5_doom 0 = .ok (.aload_n 0, 1) := by decide +kernel
theorem dX5_doom_1 : decode cX5_doom 1 = .ok (.iload_n 1, 1) := by decide +kernel
theorem dX5_doom_2 : decode cX5_doom 2 = .ok (.invokevirtual 71, 3) := by decide +kernel
theorem dX5_doom_5 : decode cX5_doom 5 = .ok (.ifCond .eq 19, 3) := by decide +kernel
theorem dX5_doom_8 : decode cX5_doom 8 = .ok (.iload_n 2, 1) := by decide +kernel
theorem dX5_doom_9 : decode cX5_doom 9 = .ok (.invokestatic 107, 3) := by decide +kernel
theorem dX5_doom_12 : decode cX5_doom 12 = .ok (.ifCond .eq 12, 3) := by decide +kernel
theorem dX5_doom_15 : decode cX5_doom 15 = .ok (.iload_n 3, 1) := by decide +kernel
theorem dX5_doom_16 : decode cX5_doom 16 = .ok (.iconst 0, 1) := by decide +kernel
theorem dX5_doom_17 : decode cX5_doom 17 = .ok (.iconst 1, 1) := by decide +kernel
theorem dX5_doom_18 : decode cX5_doom 18 = .ok (.invokestatic 33, 3) := by decide +kernel
theorem dX5_doom_21 : decode cX5_doom 21 = .ok (.ifCond .ne 6, 3) := by decide +kernel
theorem dX5_doom_24 : decode cX5_doom 24 = .ok (.ldc 44, 2) := by decide +kernel
theorem dX5_doom_26 : decode cX5_doom 26 = .ok (.ireturn, 1) := by decide +kernel
theorem dX5_doom_27 : decode cX5_doom 27 = .ok (.aload_n 0, 1) := by decide +kernel
theorem dX5_doom_28 : decode cX5_doom 28 = .ok (.getfield 16, 3) := by decide +kernel
theorem dX5_doom_31 : decode cX5_doom 31 = .ok (.aload_n 0, 1) := by decide +kernel
theorem dX5_doom_32 : decode cX5_doom 32 = .ok (.getfield 10, 3) := by decide +kernel
theorem dX5_doom_35 : decode cX5_doom 35 = .ok (.invokevirtual 192, 3) := by decide +kernel
theorem dX5_doom_38 : decode cX5_doom 38 = .ok (.aload_n 0, 1) := by decide +kernel
theorem dX5_doom_39 : decode cX5_doom 39 = .ok (.getfield 16, 3) := by decide +kernel
theorem dX5_doom_42 : decode cX5_doom 42 = .ok (.getfield 61, 3) := by decide +kernel
theorem dX5_doom_45 : decode cX5_doom 45 = .ok (.iload_n 1, 1) := by decide +kernel
theorem dX5_doom_46 : decode cX5_doom 46 = .ok (.aaload, 1) := by decide +kernel
theorem dX5_doom_47 : decode cX5_doom 47 = .ok (.astore 4, 2) := by decide +kernel
theorem dX5_doom_49 : decode cX5_doom 49 = .ok (.iconst 0, 1) := by decide +kernel
theorem dX5_doom_50 : decode cX5_doom 50 = .ok (.istore 5, 2) := by decide +kernel
theorem dX5_doom_52 : decode cX5_doom 52 = .ok (.iload 5, 2) := by decide +kernel
theorem dX5_doom_54 : decode cX5_doom 54 = .ok (.bipush 100, 2) := by decide +kernel
theorem dX5_doom_56 : decode cX5_doom 56 = .ok (.if_icmp .ge 30, 3) := by decide +kernel
theorem dX5_doom_59 : decode cX5_doom 59 = .ok (.aload 4, 2) := by decide +kernel
theorem dX5_doom_61 : decode cX5_doom 61 = .ok (.invokevirtual 195, 3) := by decide +kernel
theorem dX5_doom_64 : decode cX5_doom 64 = .ok (.ifCond .eq 6, 3) := by decide +kernel
theorem dX5_doom_67 : decode cX5_doom 67 = .ok (.iload 5, 2) := by decide +kernel
theorem dX5_doom_69 : decode cX5_doom 69 = .ok (.ireturn, 1) := by decide +kernel
theorem dX5_doom_70 : decode cX5_doom 70 = .ok (.aload_n 0, 1) := by decide +kernel
theorem dX5_doom_71 : decode cX5_doom 71 = .ok (.getfield 16, 3) := by decide +kernel
theorem dX5_doom_74 : decode cX5_doom 74 = .ok (.iload_n 2, 1) := by decide +kernel
theorem dX5_doom_75 : decode cX5_doom 75 = .ok (.iload_n 3, 1) := by decide +kernel
theorem dX5_doom_76 : decode cX5_doom 76 = .ok (.invokevirtual 110, 3) := by decide +kernel
theorem dX5_doom_79 : decode cX5_doom 79 = .ok (.pop, 1) := by decide +kernel
theorem dX5_doom_80 : decode cX5_doom 80 = .ok (.iinc 5 1, 3) := by decide +kernel
theorem dX5_doom_83 : decode cX5_doom 83 = .ok (.goto (-31), 3) := by decide +kernel
theorem dX5_doom_86 : decode cX5_doom 86 = .ok (.aload 4, 2) := by decide +kernel
theorem dX5_doom_88 : decode cX5_doom 88 = .ok (.invokevirtual 195, 3) := by decide +kernel
theorem dX5_doom_91 : decode cX5_doom 91 = .ok (.ifCond .eq 8, 3) := by decide +kernel
theorem dX5_doom_94 : decode cX5_doom 94 = .ok (.bipush 100, 2) := by decide +kernel
theorem dX5_doom_96 : decode cX5_doom 96 = .ok (.goto 5, 3) := by decide +kernel
theorem dX5_doom_99 : decode cX5_doom 99 = .ok (.ldc 120, 2) := by decide +kernel
theorem dX5_doom_101 : decode cX5_doom 101 = .ok (.ireturn, 1) := by decide +kernel
theorem dX5_bestRow_0 : decode cX5_bestRow 0 = .ok (.aload_n 0, 1) := by decide +kernel
theorem dX5_bestRow_1 : decode cX5_bestRow 1 = .ok (.iload_n 1, 1) := by decide +kernel
theorem dX5_bestRow_2 : decode cX5_bestRow 2 = .ok (.invokevirtual 71, 3) := by decide +kernel
theorem dX5_bestRow_5 : decode cX5_bestRow 5 = .ok (.ifCond .eq 29, 3) := by decide +kernel
theorem dX5_bestRow_8 : decode cX5_bestRow 8 = .ok (.iload_n 2, 1) := by decide +kernel
theorem dX5_bestRow_9 : decode cX5_bestRow 9 = .ok (.invokestatic 107, 3) := by decide +kernel
theorem dX5_bestRow_12 : decode cX5_bestRow 12 = .ok (.ifCond .eq 22, 3) := by decide +kernel
theorem dX5_bestRow_15 : decode cX5_bestRow 15 = .ok (.iload_n 3, 1) := by decide +kernel
theorem dX5_bestRow_16 : decode cX5_bestRow 16 = .ok (.iconst 1, 1) := by decide +kernel
theorem dX5_bestRow_17 : decode cX5_bestRow 17 = .ok (.iconst 5, 1) := by decide +kernel
theorem dX5_bestRow_18 : decode cX5_bestRow 18 = .ok (.invokestatic 33, 3) := by decide +kernel
theorem dX5_bestRow_21 : decode cX5_bestRow 21 = .ok (.ifCond .eq 13, 3) := by decide +kernel
theorem dX5_bestRow_24 : decode cX5_bestRow 24 = .ok (.iload 4, 2) := by decide +kernel
theorem dX5_bestRow_26 : decode cX5_bestRow 26 = .ok (.iconst 0, 1) := by decide +kernel
theorem dX5_bestRow_27 : decode cX5_bestRow 27 = .ok (.iconst 1, 1) := by decide +kernel
theorem dX5_bestRow_28 : decode cX5_bestRow 28 = .ok (.invokestatic 33, 3) := by decide +kernel
theorem dX5_bestRow_31 : decode cX5_bestRow 31 = .ok (.ifCond .ne 6, 3) := by decide +kernel
theorem dX5_bestRow_34 : decode cX5_bestRow 34 = .ok (.ldc 44, 2) := by decide +kernel
theorem dX5_bestRow_36 : decode cX5_bestRow 36 = .ok (.ireturn, 1) := by decide +kernel
theorem dX5_bestRow_37 : decode cX5_bestRow 37 = .ok (.iconst 0, 1) := by decide +kernel
theorem dX5_bestRow_38 : decode cX5_bestRow 38 = .ok (.istore 5, 2) := by decide +kernel
theorem dX5_bestRow_40 : decode cX5_bestRow 40 = .ok (.iconst (-1), 1) := by decide +kernel
theorem dX5_bestRow_41 : decode cX5_bestRow 41 = .ok (.istore 6, 2) := by decide +kernel
theorem dX5_bestRow_43 : decode cX5_bestRow 43 = .ok (.iconst 0, 1) := by decide +kernel
theorem dX5_bestRow_44 : decode cX5_bestRow 44 = .ok (.istore 7, 2) := by decide +kernel
theorem dX5_bestRow_46 : decode cX5_bestRow 46 = .ok (.iload 7, 2) := by decide +kernel
theorem dX5_bestRow_48 : decode cX5_bestRow 48 = .ok (.iconst 1, 1) := by decide +kernel
theorem dX5_bestRow_49 : decode cX5_bestRow 49 = .ok (.iload_n 3, 1) := by decide +kernel
theorem dX5_bestRow_50 : decode cX5_bestRow 50 = .ok (.ishl, 1) := by decide +kernel
theorem dX5_bestRow_51 : decode cX5_bestRow 51 = .ok (.if_icmp .ge 35, 3) := by decide +kernel
theorem dX5_bestRow_54 : decode cX5_bestRow 54 = .ok (.aload_n 0, 1) := by decide +kernel
theorem dX5_bestRow_55 : decode cX5_bestRow 55 = .ok (.iload 7, 2) := by decide +kernel
theorem dX5_bestRow_57 : decode cX5_bestRow 57 = .ok (.iload_n 1, 1) := by decide +kernel
theorem dX5_bestRow_58 : decode cX5_bestRow 58 = .ok (.iload_n 2, 1) := by decide +kernel
theorem dX5_bestRow_59 : decode cX5_bestRow 59 = .ok (.iload_n 3, 1) := by decide +kernel
theorem dX5_bestRow_60 : decode cX5_bestRow 60 = .ok (.invokevirtual 198, 3) := by decide +kernel
theorem dX5_bestRow_63 : decode cX5_bestRow 63 = .ok (.istore 8, 2) := by decide +kernel
theorem dX5_bestRow_65 : decode cX5_bestRow 65 = .ok (.iload 8, 2) := by decide +kernel
theorem dX5_bestRow_67 : decode cX5_bestRow 67 = .ok (.iload 6, 2) := by decide +kernel
theorem dX5_bestRow_69 : decode cX5_bestRow 69 = .ok (.if_icmp .le 11, 3) := by decide +kernel
theorem dX5_bestRow_72 : decode cX5_bestRow 72 = .ok (.iload 8, 2) := by decide +kernel
theorem dX5_bestRow_74 : decode cX5_bestRow 74 = .ok (.istore 6, 2) := by decide +kernel
theorem dX5_bestRow_76 : decode cX5_bestRow 76 = .ok (.iload 7, 2) := by decide +kernel
theorem dX5_bestRow_78 : decode cX5_bestRow 78 = .ok (.istore 5, 2) := by decide +kernel
theorem dX5_bestRow_80 : decode cX5_bestRow 80 = .ok (.iinc 7 1, 3) := by decide +kernel
theorem dX5_bestRow_83 : decode cX5_bestRow 83 = .ok (.goto (-37), 3) := by decide +kernel
theorem dX5_bestRow_86 : decode cX5_bestRow 86 = .ok (.iload 4, 2) := by decide +kernel
theorem dX5_bestRow_88 : decode cX5_bestRow 88 = .ok (.ifCond .ne 8, 3) := by decide +kernel
theorem dX5_bestRow_91 : decode cX5_bestRow 91 = .ok (.iload 5, 2) := by decide +kernel
theorem dX5_bestRow_93 : decode cX5_bestRow 93 = .ok (.goto 5, 3) := by decide +kernel
theorem dX5_bestRow_96 : decode cX5_bestRow 96 = .ok (.iload 6, 2) := by decide +kernel
theorem dX5_bestRow_98 : decode cX5_bestRow 98 = .ok (.ireturn, 1) := by decide +kernel
theorem dX5_count_0 : decode cX5_count 0 = .ok (.iload_n 1, 1) := by decide +kernel
theorem dX5_count_1 : decode cX5_count 1 = .ok (.bipush 20, 2) := by decide +kernel
theorem dX5_count_3 : decode cX5_count 3 = .ok (.bipush 22, 2) := by decide +kernel
theorem dX5_count_5 : decode cX5_count 5 = .ok (.invokestatic 33, 3) := by decide +kernel
theorem dX5_count_8 : decode cX5_count 8 = .ok (.ifCond .eq 16, 3) := by decide +kernel
theorem dX5_count_11 : decode cX5_count 11 = .ok (.aload_n 0, 1) := by decide +kernel
theorem dX5_count_12 : decode cX5_count 12 = .ok (.getfield 10, 3) := by decide +kernel
theorem dX5_count_15 : decode cX5_count 15 = .ok (.getfield 49, 3) := by decide +kernel
theorem dX5_count_18 : decode cX5_count 18 = .ok (.iload_n 1, 1) := by decide +kernel
theorem dX5_count_19 : decode cX5_count 19 = .ok (.bipush 20, 2) := by decide +kernel
theorem dX5_count_21 : decode cX5_count 21 = .ok (.isub, 1) := by decide +kernel
theorem dX5_count_22 : decode cX5_count 22 = .ok (.iaload, 1) := by decide +kernel
theorem dX5_count_23 : decode cX5_count 23 = .ok (.ireturn, 1) := by decide +kernel
theorem dX5_count_24 : decode cX5_count 24 = .ok (.iload_n 1, 1) := by decide +kernel
theorem dX5_count_25 : decode cX5_count 25 = .ok (.tableswitch 147 0 10 #[59, 67, 75, 83, 91, 99, 107, 115, 123, 131, 139], 59) := by decide +kernel
theorem dX5_count_84 : decode cX5_count 84 = .ok (.aload_n 0, 1) := by decide +kernel
theorem dX5_count_85 : decode cX5_count 85 = .ok (.getfield 10, 3) := by decide +kernel
theorem dX5_count_88 : decode cX5_count 88 = .ok (.getfield 56, 3) := by decide +kernel
theorem dX5_count_91 : decode cX5_count 91 = .ok (.ireturn, 1) := by decide +kernel
theorem dX5_count_92 : decode cX5_count 92 = .ok (.aload_n 0, 1) := by decide +kernel
theorem dX5_count_93 : decode cX5_count 93 = .ok (.getfield 10, 3) := by decide +kernel
theorem dX5_count_96 : decode cX5_count 96 = .ok (.invokevirtual 202, 3) := by decide +kernel
theorem dX5_count_99 : decode cX5_count 99 = .ok (.ireturn, 1) := by decide +kernel
theorem dX5_count_100 : decode cX5_count 100 = .ok (.aload_n 0, 1) := by decide +kernel
theorem dX5_count_101 : decode cX5_count 101 = .ok (.getfield 10, 3) := by decide +kernel
theorem dX5_count_104 : decode cX5_count 104 = .ok (.invokevirtual 205, 3) := by decide +kernel
theorem dX5_count_107 : decode cX5_count 107 = .ok (.ireturn, 1) := by decide +kernel
theorem dX5_count_108 : decode cX5_count 108 = .ok (.aload_n 0, 1) := by decide +kernel
theorem dX5_count_109 : decode cX5_count 109 = .ok (.getfield 10, 3) := by decide +kernel
theorem dX5_count_112 : decode cX5_count 112 = .ok (.getfield 208, 3) := by decide +kernel
theorem dX5_count_115 : decode cX5_count 115 = .ok (.ireturn, 1) := by decide +kernel
theorem dX5_count_116 : decode cX5_count 116 = .ok (.aload_n 0, 1) := by decide +kernel
theorem dX5_count_117 : decode cX5_count 117 = .ok (.getfield 10, 3) := by decide +kernel
theorem dX5_count_120 : decode cX5_count 120 = .ok (.invokevirtual 211, 3) := by decide +kernel
theorem dX5_count_123 : decode cX5_count 123 = .ok (.ireturn, 1) := by decide +kernel
theorem dX5_count_124 : decode cX5_count 124 = .ok (.aload_n 0, 1) := by decide +kernel
theorem dX5_count_125 : decode cX5_count 125 = .ok (.getfield 10, 3) := by decide +kernel
theorem dX5_count_128 : decode cX5_count 128 = .ok (.getfield 164, 3) := by decide +kernel
theorem dX5_count_131 : decode cX5_count 131 = .ok (.ireturn, 1) := by decide +kernel
theorem dX5_count_132 : decode cX5_count 132 = .ok (.aload_n 0, 1) := by decide +kernel
theorem dX5_count_133 : decode cX5_count 133 = .ok (.getfield 10, 3) := by decide +kernel
theorem dX5_count_136 : decode cX5_count 136 = .ok (.getfield 214, 3) := by decide +kernel
theorem dX5_count_139 : decode cX5_count 139 = .ok (.ireturn, 1) := by decide +kernel
theorem dX5_count_140 : decode cX5_count 140 = .ok (.aload_n 0, 1) := by decide +kernel
theorem dX5_count_141 : decode cX5_count 141 = .ok (.getfield 10, 3) := by decide +kernel
theorem dX5_count_144 : decode cX5_count 144 = .ok (.getfield 217, 3) := by decide +kernel
theorem dX5_count_147 : decode cX5_count 147 = .ok (.ireturn, 1) := by decide +kernel
theorem dX5_count_148 : decode cX5_count 148 = .ok (.aload_n 0, 1) := by decide +kernel
theorem dX5_count_149 : decode cX5_count 149 = .ok (.getfield 10, 3) := by decide +kernel
theorem dX5_count_152 : decode cX5_count 152 = .ok (.getfield 100, 3) := by decide +kernel
theorem dX5_count_155 : decode cX5_count 155 = .ok (.ireturn, 1) := by decide +kernel
theorem dX5_count_156 : decode cX5_count 156 = .ok (.aload_n 0, 1) := by decide +kernel
theorem dX5_count_157 : decode cX5_count 157 = .ok (.getfield 22, 3) := by decide +kernel
theorem dX5_count_160 : decode cX5_count 160 = .ok (.getfield 220, 3) := by decide +kernel
theorem dX5_count_163 : decode cX5_count 163 = .ok (.ireturn, 1) := by decide +kernel
theorem dX5_count_164 : decode cX5_count 164 = .ok (.aload_n 0, 1) := by decide +kernel
theorem dX5_count_165 : decode cX5_count 165 = .ok (.getfield 29, 3) := by decide +kernel
theorem dX5_count_168 : decode cX5_count 168 = .ok (.getfield 223, 3) := by decide +kernel
theorem dX5_count_171 : decode cX5_count 171 = .ok (.ireturn, 1) := by decide +kernel
theorem dX5_count_172 : decode cX5_count 172 = .ok (.ldc 44, 2) := by decide +kernel
theorem dX5_count_174 : decode cX5_count 174 = .ok (.ireturn, 1) := by decide +kernel
theorem dX5_undo_0 : decode cX5_undo 0 = .ok (.aload_n 0, 1) := by decide +kernel
theorem dX5_undo_1 : decode cX5_undo 1 = .ok (.getfield 22, 3) := by decide +kernel
theorem dX5_undo_4 : decode cX5_undo 4 = .ok (.getfield 220, 3) := by decide +kernel
theorem dX5_undo_7 : decode cX5_undo 7 = .ok (.ifCond .gt 6, 3) := by decide +kernel
theorem dX5_undo_10 : decode cX5_undo 10 = .ok (.ldc 83, 2) := by decide +kernel
theorem dX5_undo_12 : decode cX5_undo 12 = .ok (.ireturn, 1) := by decide +kernel
theorem dX5_undo_13 : decode cX5_undo 13 = .ok (.aload_n 0, 1) := by decide +kernel
theorem dX5_undo_14 : decode cX5_undo 14 = .ok (.getfield 22, 3) := by decide +kernel
theorem dX5_undo_17 : decode cX5_undo 17 = .ok (.aload_n 0, 1) := by decide +kernel
theorem dX5_undo_18 : decode cX5_undo 18 = .ok (.getfield 10, 3) := by decide +kernel
theorem dX5_undo_21 : decode cX5_undo 21 = .ok (.invokevirtual 226, 3) := by decide +kernel
theorem dX5_undo_24 : decode cX5_undo 24 = .ok (.aload_n 0, 1) := by decide +kernel
theorem dX5_undo_25 : decode cX5_undo 25 = .ok (.getfield 22, 3) := by decide +kernel
theorem dX5_undo_28 : decode cX5_undo 28 = .ok (.getfield 220, 3) := by decide +kernel
theorem dX5_undo_31 : decode cX5_undo 31 = .ok (.ireturn, 1) := by decide +kernel
theorem dX5_type_0 : decode cX5_type 0 = .ok (.iload_n 1, 1) := by decide +kernel
theorem dX5_type_1 : decode cX5_type 1 = .ok (.bipush 32, 2) := by decide +kernel
theorem dX5_type_3 : decode cX5_type 3 = .ok (.bipush 126, 2) := by decide +kernel
theorem dX5_type_5 : decode cX5_type 5 = .ok (.invokestatic 33, 3) := by decide +kernel
theorem dX5_type_8 : decode cX5_type 8 = .ok (.ifCond .ne 6, 3) := by decide +kernel
theorem dX5_type_11 : decode cX5_type 11 = .ok (.ldc 44, 2) := by decide +kernel
theorem dX5_type_13 : decode cX5_type 13 = .ok (.ireturn, 1) := by decide +kernel
theorem dX5_type_14 : decode cX5_type 14 = .ok (.aload_n 0, 1) := by decide +kernel
theorem dX5_type_15 : decode cX5_type 15 = .ok (.getfield 29, 3) := by decide +kernel
theorem dX5_type_18 : decode cX5_type 18 = .ok (.getfield 223, 3) := by decide +kernel
theorem dX5_type_21 : decode cX5_type 21 = .ok (.bipush 80, 2) := by decide +kernel
theorem dX5_type_23 : decode cX5_type 23 = .ok (.if_icmp .lt 6, 3) := by decide +kernel
theorem dX5_type_26 : decode cX5_type 26 = .ok (.ldc 60, 2) := by decide +kernel
theorem dX5_type_28 : decode cX5_type 28 = .ok (.ireturn, 1) := by decide +kernel
theorem dX5_type_29 : decode cX5_type 29 = .ok (.aload_n 0, 1) := by decide +kernel
theorem dX5_type_30 : decode cX5_type 30 = .ok (.getfield 29, 3) := by decide +kernel
theorem dX5_type_33 : decode cX5_type 33 = .ok (.iload_n 1, 1) := by decide +kernel
theorem dX5_type_34 : decode cX5_type 34 = .ok (.i2c, 1) := by decide +kernel
theorem dX5_type_35 : decode cX5_type 35 = .ok (.invokevirtual 229, 3) := by decide +kernel
theorem dX5_type_38 : decode cX5_type 38 = .ok (.aload_n 0, 1) := by decide +kernel
theorem dX5_type_39 : decode cX5_type 39 = .ok (.getfield 29, 3) := by decide +kernel
theorem dX5_type_42 : decode cX5_type 42 = .ok (.getfield 223, 3) := by decide +kernel
theorem dX5_type_45 : decode cX5_type 45 = .ok (.ireturn, 1) := by decide +kernel
theorem dX5_clearText_0 : decode cX5_clearText 0 = .ok (.aload_n 0, 1) := by decide +kernel
theorem dX5_clearText_1 : decode cX5_clearText 1 = .ok (.getfield 29, 3) := by decide +kernel
theorem dX5_clearText_4 : decode cX5_clearText 4 = .ok (.getfield 223, 3) := by decide +kernel
theorem dX5_clearText_7 : decode cX5_clearText 7 = .ok (.istore_n 1, 1) := by decide +kernel
theorem dX5_clearText_8 : decode cX5_clearText 8 = .ok (.aload_n 0, 1) := by decide +kernel
theorem dX5_clearText_9 : decode cX5_clearText 9 = .ok (.getfield 29, 3) := by decide +kernel
theorem dX5_clearText_12 : decode cX5_clearText 12 = .ok (.iconst 0, 1) := by decide +kernel
theorem dX5_clearText_13 : decode cX5_clearText 13 = .ok (.putfield 223, 3) := by decide +kernel
theorem dX5_clearText_16 : decode cX5_clearText 16 = .ok (.iload_n 1, 1) := by decide +kernel
theorem dX5_clearText_17 : decode cX5_clearText 17 = .ok (.ireturn, 1) := by decide +kernel
theorem dX5_fault_0 : decode cX5_fault 0 = .ok (.iload_n 1, 1) := by decide +kernel
theorem dX5_fault_1 : decode cX5_fault 1 = .ok (.iconst 0, 1) := by decide +kernel
theorem dX5_fault_2 : decode cX5_fault 2 = .ok (.iconst 2, 1) := by decide +kernel
theorem dX5_fault_3 : decode cX5_fault 3 = .ok (.invokestatic 33, 3) := by decide +kernel
theorem dX5_fault_6 : decode cX5_fault 6 = .ok (.ifCond .ne 6, 3) := by decide +kernel
theorem dX5_fault_9 : decode cX5_fault 9 = .ok (.ldc 44, 2) := by decide +kernel
theorem dX5_fault_11 : decode cX5_fault 11 = .ok (.ireturn, 1) := by decide +kernel
theorem dX5_fault_12 : decode cX5_fault 12 = .ok (.aload_n 0, 1) := by decide +kernel
theorem dX5_fault_13 : decode cX5_fault 13 = .ok (.getfield 29, 3) := by decide +kernel
theorem dX5_fault_16 : decode cX5_fault 16 = .ok (.invokevirtual 233, 3) := by decide +kernel
theorem dX5_fault_19 : decode cX5_fault 19 = .ok (.ifCond .ne 6, 3) := by decide +kernel
theorem dX5_fault_22 : decode cX5_fault 22 = .ok (.ldc 120, 2) := by decide +kernel
theorem dX5_fault_24 : decode cX5_fault 24 = .ok (.ireturn, 1) := by decide +kernel
theorem dX5_fault_25 : decode cX5_fault 25 = .ok (.iload_n 1, 1) := by decide +kernel
theorem dX5_fault_26 : decode cX5_fault 26 = .ok (.lookupswitch 42 #[(0, 26), (1, 34)], 26) := by decide +kernel
theorem dX5_fault_52 : decode cX5_fault 52 = .ok (.aload_n 0, 1) := by decide +kernel
theorem dX5_fault_53 : decode cX5_fault 53 = .ok (.getfield 29, 3) := by decide +kernel
theorem dX5_fault_56 : decode cX5_fault 56 = .ok (.getfield 236, 3) := by decide +kernel
theorem dX5_fault_59 : decode cX5_fault 59 = .ok (.ireturn, 1) := by decide +kernel
theorem dX5_fault_60 : decode cX5_fault 60 = .ok (.aload_n 0, 1) := by decide +kernel
theorem dX5_fault_61 : decode cX5_fault 61 = .ok (.getfield 29, 3) := by decide +kernel
theorem dX5_fault_64 : decode cX5_fault 64 = .ok (.getfield 239, 3) := by decide +kernel
theorem dX5_fault_67 : decode cX5_fault 67 = .ok (.ireturn, 1) := by decide +kernel
theorem dX5_fault_68 : decode cX5_fault 68 = .ok (.aload_n 0, 1) := by decide +kernel
theorem dX5_fault_69 : decode cX5_fault 69 = .ok (.getfield 29, 3) := by decide +kernel
theorem dX5_fault_72 : decode cX5_fault 72 = .ok (.getfield 242, 3) := by decide +kernel
theorem dX5_fault_75 : decode cX5_fault 75 = .ok (.ireturn, 1) := by decide +kernel
theorem dX5_play_0 : decode cX5_play 0 = .ok (.aload_n 0, 1) := by decide +kernel
theorem dX5_play_1 : decode cX5_play 1 = .ok (.getfield 29, 3) := by decide +kernel
theorem dX5_play_4 : decode cX5_play 4 = .ok (.invokevirtual 233, 3) := by decide +kernel
theorem dX5_play_7 : decode cX5_play 7 = .ok (.ifCond .eq 6, 3) := by decide +kernel
theorem dX5_play_10 : decode cX5_play 10 = .ok (.ldc 83, 2) := by decide +kernel
theorem dX5_play_12 : decode cX5_play 12 = .ok (.ireturn, 1) := by decide +kernel
theorem dX5_play_13 : decode cX5_play 13 = .ok (.aload_n 0, 1) := by decide +kernel
theorem dX5_play_14 : decode cX5_play 14 = .ok (.getfield 22, 3) := by decide +kernel
theorem dX5_play_17 : decode cX5_play 17 = .ok (.aload_n 0, 1) := by decide +kernel
theorem dX5_play_18 : decode cX5_play 18 = .ok (.getfield 10, 3) := by decide +kernel
theorem dX5_play_21 : decode cX5_play 21 = .ok (.invokevirtual 45, 3) := by decide +kernel
theorem dX5_play_24 : decode cX5_play 24 = .ok (.iconst 0, 1) := by decide +kernel
theorem dX5_play_25 : decode cX5_play 25 = .ok (.istore_n 1, 1) := by decide +kernel
theorem dX5_play_26 : decode cX5_play 26 = .ok (.iconst 0, 1) := by decide +kernel
theorem dX5_play_27 : decode cX5_play 27 = .ok (.istore_n 2, 1) := by decide +kernel
theorem dX5_play_28 : decode cX5_play 28 = .ok (.iconst 0, 1) := by decide +kernel
theorem dX5_play_29 : decode cX5_play 29 = .ok (.istore_n 3, 1) := by decide +kernel
theorem dX5_play_30 : decode cX5_play 30 = .ok (.iload_n 3, 1) := by decide +kernel
theorem dX5_play_31 : decode cX5_play 31 = .ok (.bipush 80, 2) := by decide +kernel
theorem dX5_play_33 : decode cX5_play 33 = .ok (.if_icmp .ge 43, 3) := by decide +kernel
theorem dX5_play_36 : decode cX5_play 36 = .ok (.iload_n 2, 1) := by decide +kernel
theorem dX5_play_37 : decode cX5_play 37 = .ok (.aload_n 0, 1) := by decide +kernel
theorem dX5_play_38 : decode cX5_play 38 = .ok (.getfield 29, 3) := by decide +kernel
theorem dX5_play_41 : decode cX5_play 41 = .ok (.getfield 223, 3) := by decide +kernel
theorem dX5_play_44 : decode cX5_play 44 = .ok (.if_icmp .ge 32, 3) := by decide +kernel
theorem dX5_play_47 : decode cX5_play 47 = .ok (.aload_n 0, 1) := by decide +kernel
theorem dX5_play_48 : decode cX5_play 48 = .ok (.getfield 29, 3) := by decide +kernel
theorem dX5_play_51 : decode cX5_play 51 = .ok (.iload_n 2, 1) := by decide +kernel
theorem dX5_play_52 : decode cX5_play 52 = .ok (.invokevirtual 245, 3) := by decide +kernel
theorem dX5_play_55 : decode cX5_play 55 = .ok (.iload_n 1, 1) := by decide +kernel
theorem dX5_play_56 : decode cX5_play 56 = .ok (.aload_n 0, 1) := by decide +kernel
theorem dX5_play_57 : decode cX5_play 57 = .ok (.invokevirtual 248, 3) := by decide +kernel
theorem dX5_play_60 : decode cX5_play 60 = .ok (.iadd, 1) := by decide +kernel
theorem dX5_play_61 : decode cX5_play 61 = .ok (.istore_n 1, 1) := by decide +kernel
theorem dX5_play_62 : decode cX5_play 62 = .ok (.aload_n 0, 1) := by decide +kernel
theorem dX5_play_63 : decode cX5_play 63 = .ok (.getfield 29, 3) := by decide +kernel
theorem dX5_play_66 : decode cX5_play 66 = .ok (.getfield 251, 3) := by decide +kernel
theorem dX5_play_69 : decode cX5_play 69 = .ok (.istore_n 2, 1) := by decide +kernel
theorem dX5_play_70 : decode cX5_play 70 = .ok (.iinc 3 1, 3) := by decide +kernel
theorem dX5_play_73 : decode cX5_play 73 = .ok (.goto (-43), 3) := by decide +kernel
theorem dX5_play_76 : decode cX5_play 76 = .ok (.iload_n 1, 1) := by decide +kernel
theorem dX5_play_77 : decode cX5_play 77 = .ok (.ireturn, 1) := by decide +kernel
theorem dX5_isWithin_0 : decode cX5_isWithin 0 = .ok (.iload_n 0, 1) := by decide +kernel
theorem dX5_isWithin_1 : decode cX5_isWithin 1 = .ok (.iload_n 1, 1) := by decide +kernel
theorem dX5_isWithin_2 : decode cX5_isWithin 2 = .ok (.if_icmp .lt 12, 3) := by decide +kernel
theorem dX5_isWithin_5 : decode cX5_isWithin 5 = .ok (.iload_n 0, 1) := by decide +kernel
theorem dX5_isWithin_6 : decode cX5_isWithin 6 = .ok (.iload_n 2, 1) := by decide +kernel
theorem dX5_isWithin_7 : decode cX5_isWithin 7 = .ok (.if_icmp .gt 7, 3) := by decide +kernel
theorem dX5_isWithin_10 : decode cX5_isWithin 10 = .ok (.iconst 1, 1) := by decide +kernel
theorem dX5_isWithin_11 : decode cX5_isWithin 11 = .ok (.goto 4, 3) := by decide +kernel
theorem dX5_isWithin_14 : decode cX5_isWithin 14 = .ok (.iconst 0, 1) := by decide +kernel
theorem dX5_isWithin_15 : decode cX5_isWithin 15 = .ok (.ireturn, 1) := by decide +kernel
theorem dX5_isAddress_0 : decode cX5_isAddress 0 = .ok (.iload_n 0, 1) := by decide +kernel
theorem dX5_isAddress_1 : decode cX5_isAddress 1 = .ok (.iconst 0, 1) := by decide +kernel
theorem dX5_isAddress_2 : decode cX5_isAddress 2 = .ok (.bipush 63, 2) := by decide +kernel
theorem dX5_isAddress_4 : decode cX5_isAddress 4 = .ok (.invokestatic 33, 3) := by decide +kernel
theorem dX5_isAddress_7 : decode cX5_isAddress 7 = .ok (.ireturn, 1) := by decide +kernel
theorem dX5_isOracle_0 : decode cX5_isOracle 0 = .ok (.iload_n 1, 1) := by decide +kernel
theorem dX5_isOracle_1 : decode cX5_isOracle 1 = .ok (.iconst 0, 1) := by decide +kernel
theorem dX5_isOracle_2 : decode cX5_isOracle 2 = .ok (.aload_n 0, 1) := by decide +kernel
theorem dX5_isOracle_3 : decode cX5_isOracle 3 = .ok (.getfield 10, 3) := by decide +kernel
theorem dX5_isOracle_6 : decode cX5_isOracle 6 = .ok (.getfield 56, 3) := by decide +kernel
theorem dX5_isOracle_9 : decode cX5_isOracle 9 = .ok (.iconst 1, 1) := by decide +kernel
theorem dX5_isOracle_10 : decode cX5_isOracle 10 = .ok (.isub, 1) := by decide +kernel
theorem dX5_isOracle_11 : decode cX5_isOracle 11 = .ok (.invokestatic 33, 3) := by decide +kernel
theorem dX5_isOracle_14 : decode cX5_isOracle 14 = .ok (.ireturn, 1) := by decide +kernel
theorem dX5_mostNumberOf_0 : decode cX5_mostNumberOf 0 = .ok (.iload_n 0, 1) := by decide +kernel
theorem dX5_mostNumberOf_1 : decode cX5_mostNumberOf 1 = .ok (.ifCond .ne 5, 3) := by decide +kernel
theorem dX5_mostNumberOf_4 : decode cX5_mostNumberOf 4 = .ok (.iconst 1, 1) := by decide +kernel
theorem dX5_mostNumberOf_5 : decode cX5_mostNumberOf 5 = .ok (.ireturn, 1) := by decide +kernel
theorem dX5_mostNumberOf_6 : decode cX5_mostNumberOf 6 = .ok (.iload_n 0, 1) := by decide +kernel
theorem dX5_mostNumberOf_7 : decode cX5_mostNumberOf 7 = .ok (.iconst 4, 1) := by decide +kernel
theorem dX5_mostNumberOf_8 : decode cX5_mostNumberOf 8 = .ok (.if_icmp .ne 7, 3) := by decide +kernel
theorem dX5_mostNumberOf_11 : decode cX5_mostNumberOf 11 = .ok (.iconst 0, 1) := by decide +kernel
theorem dX5_mostNumberOf_12 : decode cX5_mostNumberOf 12 = .ok (.goto 4, 3) := by decide +kernel
theorem dX5_mostNumberOf_15 : decode cX5_mostNumberOf 15 = .ok (.iconst 5, 1) := by decide +kernel
theorem dX5_mostNumberOf_16 : decode cX5_mostNumberOf 16 = .ok (.ireturn, 1) := by decide +kernel
theorem dX5_takes_0 : decode cX5_takes 0 = .ok (.iload_n 0, 1) := by decide +kernel
theorem dX5_takes_1 : decode cX5_takes 1 = .ok (.ifCond .ne 16, 3) := by decide +kernel
theorem dX5_takes_4 : decode cX5_takes 4 = .ok (.aload_n 1, 1) := by decide +kernel
theorem dX5_takes_5 : decode cX5_takes 5 = .ok (.getfield 114, 3) := by decide +kernel
theorem dX5_takes_8 : decode cX5_takes 8 = .ok (.ifCond .ne 7, 3) := by decide +kernel
theorem dX5_takes_11 : decode cX5_takes 11 = .ok (.iconst 1, 1) := by decide +kernel
theorem dX5_takes_12 : decode cX5_takes 12 = .ok (.goto 4, 3) := by decide +kernel
theorem dX5_takes_15 : decode cX5_takes 15 = .ok (.iconst 0, 1) := by decide +kernel
theorem dX5_takes_16 : decode cX5_takes 16 = .ok (.ireturn, 1) := by decide +kernel
theorem dX5_takes_17 : decode cX5_takes 17 = .ok (.iload_n 0, 1) := by decide +kernel
theorem dX5_takes_18 : decode cX5_takes 18 = .ok (.iconst 1, 1) := by decide +kernel
theorem dX5_takes_19 : decode cX5_takes 19 = .ok (.if_icmp .ne 10, 3) := by decide +kernel
theorem dX5_takes_22 : decode cX5_takes 22 = .ok (.aload_n 1, 1) := by decide +kernel
theorem dX5_takes_23 : decode cX5_takes 23 = .ok (.invokevirtual 161, 3) := by decide +kernel
theorem dX5_takes_26 : decode cX5_takes 26 = .ok (.ifCond .eq 7, 3) := by decide +kernel
theorem dX5_takes_29 : decode cX5_takes 29 = .ok (.iconst 1, 1) := by decide +kernel
theorem dX5_takes_30 : decode cX5_takes 30 = .ok (.goto 4, 3) := by decide +kernel
theorem dX5_takes_33 : decode cX5_takes 33 = .ok (.iconst 0, 1) := by decide +kernel
theorem dX5_takes_34 : decode cX5_takes 34 = .ok (.ireturn, 1) := by decide +kernel
theorem dX5_bitsOfQuotient_0 : decode cX5_bitsOfQuotient 0 = .ok (.iload_n 0, 1) := by decide +kernel
theorem dX5_bitsOfQuotient_1 : decode cX5_bitsOfQuotient 1 = .ok (.ifCond .le 7, 3) := by decide +kernel
theorem dX5_bitsOfQuotient_4 : decode cX5_bitsOfQuotient 4 = .ok (.iload_n 1, 1) := by decide +kernel
theorem dX5_bitsOfQuotient_5 : decode cX5_bitsOfQuotient 5 = .ok (.ifCond .gt 5, 3) := by decide +kernel
theorem dX5_bitsOfQuotient_8 : decode cX5_bitsOfQuotient 8 = .ok (.iconst 0, 1) := by decide +kernel
theorem dX5_bitsOfQuotient_9 : decode cX5_bitsOfQuotient 9 = .ok (.ireturn, 1) := by decide +kernel
theorem dX5_bitsOfQuotient_10 : decode cX5_bitsOfQuotient 10 = .ok (.iload_n 0, 1) := by decide +kernel
theorem dX5_bitsOfQuotient_11 : decode cX5_bitsOfQuotient 11 = .ok (.i2f, 1) := by decide +kernel
theorem dX5_bitsOfQuotient_12 : decode cX5_bitsOfQuotient 12 = .ok (.iload_n 1, 1) := by decide +kernel
theorem dX5_bitsOfQuotient_13 : decode cX5_bitsOfQuotient 13 = .ok (.i2f, 1) := by decide +kernel
theorem dX5_bitsOfQuotient_14 : decode cX5_bitsOfQuotient 14 = .ok (.fdiv, 1) := by decide +kernel
theorem dX5_bitsOfQuotient_15 : decode cX5_bitsOfQuotient 15 = .ok (.fstore_n 2, 1) := by decide +kernel
theorem dX5_bitsOfQuotient_16 : decode cX5_bitsOfQuotient 16 = .ok (.bipush 127, 2) := by decide +kernel
theorem dX5_bitsOfQuotient_18 : decode cX5_bitsOfQuotient 18 = .ok (.istore_n 3, 1) := by decide +kernel
theorem dX5_bitsOfQuotient_19 : decode cX5_bitsOfQuotient 19 = .ok (.iconst 0, 1) := by decide +kernel
theorem dX5_bitsOfQuotient_20 : decode cX5_bitsOfQuotient 20 = .ok (.istore 4, 2) := by decide +kernel
theorem dX5_bitsOfQuotient_22 : decode cX5_bitsOfQuotient 22 = .ok (.iload 4, 2) := by decide +kernel
theorem dX5_bitsOfQuotient_24 : decode cX5_bitsOfQuotient 24 = .ok (.bipush 126, 2) := by decide +kernel
theorem dX5_bitsOfQuotient_26 : decode cX5_bitsOfQuotient 26 = .ok (.if_icmp .ge 22, 3) := by decide +kernel
theorem dX5_bitsOfQuotient_29 : decode cX5_bitsOfQuotient 29 = .ok (.fload_n 2, 1) := by decide +kernel
theorem dX5_bitsOfQuotient_30 : decode cX5_bitsOfQuotient 30 = .ok (.fconst 1, 1) := by decide +kernel
theorem dX5_bitsOfQuotient_31 : decode cX5_bitsOfQuotient 31 = .ok (.fcmp .g, 1) := by decide +kernel
theorem dX5_bitsOfQuotient_32 : decode cX5_bitsOfQuotient 32 = .ok (.ifCond .ge 16, 3) := by decide +kernel
theorem dX5_bitsOfQuotient_35 : decode cX5_bitsOfQuotient 35 = .ok (.fload_n 2, 1) := by decide +kernel
theorem dX5_bitsOfQuotient_36 : decode cX5_bitsOfQuotient 36 = .ok (.fconst 2, 1) := by decide +kernel
theorem dX5_bitsOfQuotient_37 : decode cX5_bitsOfQuotient 37 = .ok (.fmul, 1) := by decide +kernel
theorem dX5_bitsOfQuotient_38 : decode cX5_bitsOfQuotient 38 = .ok (.fstore_n 2, 1) := by decide +kernel
theorem dX5_bitsOfQuotient_39 : decode cX5_bitsOfQuotient 39 = .ok (.iinc 3 (-1), 3) := by decide +kernel
theorem dX5_bitsOfQuotient_42 : decode cX5_bitsOfQuotient 42 = .ok (.iinc 4 1, 3) := by decide +kernel
theorem dX5_bitsOfQuotient_45 : decode cX5_bitsOfQuotient 45 = .ok (.goto (-23), 3) := by decide +kernel
theorem dX5_bitsOfQuotient_48 : decode cX5_bitsOfQuotient 48 = .ok (.iload_n 3, 1) := by decide +kernel
theorem dX5_bitsOfQuotient_49 : decode cX5_bitsOfQuotient 49 = .ok (.bipush 23, 2) := by decide +kernel
theorem dX5_bitsOfQuotient_51 : decode cX5_bitsOfQuotient 51 = .ok (.ishl, 1) := by decide +kernel
theorem dX5_bitsOfQuotient_52 : decode cX5_bitsOfQuotient 52 = .ok (.fload_n 2, 1) := by decide +kernel
theorem dX5_bitsOfQuotient_53 : decode cX5_bitsOfQuotient 53 = .ok (.ldc 254, 2) := by decide +kernel
theorem dX5_bitsOfQuotient_55 : decode cX5_bitsOfQuotient 55 = .ok (.fmul, 1) := by decide +kernel
theorem dX5_bitsOfQuotient_56 : decode cX5_bitsOfQuotient 56 = .ok (.f2i, 1) := by decide +kernel
theorem dX5_bitsOfQuotient_57 : decode cX5_bitsOfQuotient 57 = .ok (.ldc 255, 2) := by decide +kernel
theorem dX5_bitsOfQuotient_59 : decode cX5_bitsOfQuotient 59 = .ok (.isub, 1) := by decide +kernel
theorem dX5_bitsOfQuotient_60 : decode cX5_bitsOfQuotient 60 = .ok (.iadd, 1) := by decide +kernel
theorem dX5_bitsOfQuotient_61 : decode cX5_bitsOfQuotient 61 = .ok (.ireturn, 1) := by decide +kernel
theorem dX5_purseBehind_0 : decode cX5_purseBehind 0 = .ok (.aload_n 0, 1) := by decide +kernel
theorem dX5_purseBehind_1 : decode cX5_purseBehind 1 = .ok (.getfield 16, 3) := by decide +kernel
theorem dX5_purseBehind_4 : decode cX5_purseBehind 4 = .ok (.aload_n 0, 1) := by decide +kernel
theorem dX5_purseBehind_5 : decode cX5_purseBehind 5 = .ok (.getfield 10, 3) := by decide +kernel
theorem dX5_purseBehind_8 : decode cX5_purseBehind 8 = .ok (.invokevirtual 192, 3) := by decide +kernel
theorem dX5_purseBehind_11 : decode cX5_purseBehind 11 = .ok (.iload 4, 2) := by decide +kernel
theorem dX5_purseBehind_13 : decode cX5_purseBehind 13 = .ok (.iconst 1, 1) := by decide +kernel
theorem dX5_purseBehind_14 : decode cX5_purseBehind 14 = .ok (.isub, 1) := by decide +kernel
theorem dX5_purseBehind_15 : decode cX5_purseBehind 15 = .ok (.istore 5, 2) := by decide +kernel
theorem dX5_purseBehind_17 : decode cX5_purseBehind 17 = .ok (.iload 5, 2) := by decide +kernel
theorem dX5_purseBehind_19 : decode cX5_purseBehind 19 = .ok (.ifCond .lt 24, 3) := by decide +kernel
theorem dX5_purseBehind_22 : decode cX5_purseBehind 22 = .ok (.aload_n 0, 1) := by decide +kernel
theorem dX5_purseBehind_23 : decode cX5_purseBehind 23 = .ok (.getfield 16, 3) := by decide +kernel
theorem dX5_purseBehind_26 : decode cX5_purseBehind 26 = .ok (.iload_n 3, 1) := by decide +kernel
theorem dX5_purseBehind_27 : decode cX5_purseBehind 27 = .ok (.iload_n 1, 1) := by decide +kernel
theorem dX5_purseBehind_28 : decode cX5_purseBehind 28 = .ok (.iload 5, 2) := by decide +kernel
theorem dX5_purseBehind_30 : decode cX5_purseBehind 30 = .ok (.ishr, 1) := by decide +kernel
theorem dX5_purseBehind_31 : decode cX5_purseBehind 31 = .ok (.iconst 1, 1) := by decide +kernel
theorem dX5_purseBehind_32 : decode cX5_purseBehind 32 = .ok (.iand, 1) := by decide +kernel
theorem dX5_purseBehind_33 : decode cX5_purseBehind 33 = .ok (.invokevirtual 110, 3) := by decide +kernel
theorem dX5_purseBehind_36 : decode cX5_purseBehind 36 = .ok (.pop, 1) := by decide +kernel
theorem dX5_purseBehind_37 : decode cX5_purseBehind 37 = .ok (.iinc 5 (-1), 3) := by decide +kernel
theorem dX5_purseBehind_40 : decode cX5_purseBehind 40 = .ok (.goto (-23), 3) := by decide +kernel
theorem dX5_purseBehind_43 : decode cX5_purseBehind 43 = .ok (.aload_n 0, 1) := by decide +kernel
theorem dX5_purseBehind_44 : decode cX5_purseBehind 44 = .ok (.getfield 16, 3) := by decide +kernel
theorem dX5_purseBehind_47 : decode cX5_purseBehind 47 = .ok (.getfield 61, 3) := by decide +kernel
theorem dX5_purseBehind_50 : decode cX5_purseBehind 50 = .ok (.iload_n 2, 1) := by decide +kernel
theorem dX5_purseBehind_51 : decode cX5_purseBehind 51 = .ok (.aaload, 1) := by decide +kernel
theorem dX5_purseBehind_52 : decode cX5_purseBehind 52 = .ok (.getfield 96, 3) := by decide +kernel
theorem dX5_purseBehind_55 : decode cX5_purseBehind 55 = .ok (.ireturn, 1) := by decide +kernel
theorem dX5_doOrderRead_0 : decode cX5_doOrderRead 0 = .ok (.aload_n 0, 1) := by decide +kernel
theorem dX5_doOrderRead_1 : decode cX5_doOrderRead 1 = .ok (.getfield 29, 3) := by decide +kernel
theorem dX5_doOrderRead_4 : decode cX5_doOrderRead 4 = .ok (.getfield 256, 3) := by decide +kernel
theorem dX5_doOrderRead_7 : decode cX5_doOrderRead 7 = .ok (.iconst 4, 1) := by decide +kernel
theorem dX5_doOrderRead_8 : decode cX5_doOrderRead 8 = .ok (.if_icmp .ne 23, 3) := by decide +kernel
theorem dX5_doOrderRead_11 : decode cX5_doOrderRead 11 = .ok (.aload_n 0, 1) := by decide +kernel
theorem dX5_doOrderRead_12 : decode cX5_doOrderRead 12 = .ok (.getfield 10, 3) := by decide +kernel
theorem dX5_doOrderRead_15 : decode cX5_doOrderRead 15 = .ok (.getfield 49, 3) := by decide +kernel
theorem dX5_doOrderRead_18 : decode cX5_doOrderRead 18 = .ok (.iconst 1, 1) := by decide +kernel
theorem dX5_doOrderRead_19 : decode cX5_doOrderRead 19 = .ok (.aload_n 0, 1) := by decide +kernel
theorem dX5_doOrderRead_20 : decode cX5_doOrderRead 20 = .ok (.getfield 29, 3) := by decide +kernel
theorem dX5_doOrderRead_23 : decode cX5_doOrderRead 23 = .ok (.getfield 259, 3) := by decide +kernel
theorem dX5_doOrderRead_26 : decode cX5_doOrderRead 26 = .ok (.iconst 0, 1) := by decide +kernel
theorem dX5_doOrderRead_27 : decode cX5_doOrderRead 27 = .ok (.iaload, 1) := by decide +kernel
theorem dX5_doOrderRead_28 : decode cX5_doOrderRead 28 = .ok (.iastore, 1) := by decide +kernel
theorem dX5_doOrderRead_29 : decode cX5_doOrderRead 29 = .ok (.iconst 0, 1) := by decide +kernel
theorem dX5_doOrderRead_30 : decode cX5_doOrderRead 30 = .ok (.ireturn, 1) := by decide +kernel
theorem dX5_doOrderRead_31 : decode cX5_doOrderRead 31 = .ok (.aload_n 0, 1) := by decide +kernel
theorem dX5_doOrderRead_32 : decode cX5_doOrderRead 32 = .ok (.getfield 29, 3) := by decide +kernel
theorem dX5_doOrderRead_35 : decode cX5_doOrderRead 35 = .ok (.getfield 259, 3) := by decide +kernel
theorem dX5_doOrderRead_38 : decode cX5_doOrderRead 38 = .ok (.iconst 0, 1) := by decide +kernel
theorem dX5_doOrderRead_39 : decode cX5_doOrderRead 39 = .ok (.iaload, 1) := by decide +kernel
theorem dX5_doOrderRead_40 : decode cX5_doOrderRead 40 = .ok (.istore_n 1, 1) := by decide +kernel
theorem dX5_doOrderRead_41 : decode cX5_doOrderRead 41 = .ok (.aload_n 0, 1) := by decide +kernel
theorem dX5_doOrderRead_42 : decode cX5_doOrderRead 42 = .ok (.getfield 29, 3) := by decide +kernel
theorem dX5_doOrderRead_45 : decode cX5_doOrderRead 45 = .ok (.getfield 259, 3) := by decide +kernel
theorem dX5_doOrderRead_48 : decode cX5_doOrderRead 48 = .ok (.iconst 1, 1) := by decide +kernel
theorem dX5_doOrderRead_49 : decode cX5_doOrderRead 49 = .ok (.iaload, 1) := by decide +kernel
theorem dX5_doOrderRead_50 : decode cX5_doOrderRead 50 = .ok (.istore_n 2, 1) := by decide +kernel
theorem dX5_doOrderRead_51 : decode cX5_doOrderRead 51 = .ok (.iconst 0, 1) := by decide +kernel
theorem dX5_doOrderRead_52 : decode cX5_doOrderRead 52 = .ok (.istore_n 3, 1) := by decide +kernel
theorem dX5_doOrderRead_53 : decode cX5_doOrderRead 53 = .ok (.iload_n 3, 1) := by decide +kernel
theorem dX5_doOrderRead_54 : decode cX5_doOrderRead 54 = .ok (.iload_n 2, 1) := by decide +kernel
theorem dX5_doOrderRead_55 : decode cX5_doOrderRead 55 = .ok (.if_icmp .ge 30, 3) := by decide +kernel
theorem dX5_doOrderRead_58 : decode cX5_doOrderRead 58 = .ok (.aload_n 0, 1) := by decide +kernel
theorem dX5_doOrderRead_59 : decode cX5_doOrderRead 59 = .ok (.getfield 10, 3) := by decide +kernel
theorem dX5_doOrderRead_62 : decode cX5_doOrderRead 62 = .ok (.iload_n 1, 1) := by decide +kernel
theorem dX5_doOrderRead_63 : decode cX5_doOrderRead 63 = .ok (.aload_n 0, 1) := by decide +kernel
theorem dX5_doOrderRead_64 : decode cX5_doOrderRead 64 = .ok (.getfield 29, 3) := by decide +kernel
theorem dX5_doOrderRead_67 : decode cX5_doOrderRead 67 = .ok (.getfield 256, 3) := by decide +kernel
theorem dX5_doOrderRead_70 : decode cX5_doOrderRead 70 = .ok (.iload_n 3, 1) := by decide +kernel
theorem dX5_doOrderRead_71 : decode cX5_doOrderRead 71 = .ok (.iload_n 2, 1) := by decide +kernel
theorem dX5_doOrderRead_72 : decode cX5_doOrderRead 72 = .ok (.invokestatic 262, 3) := by decide +kernel
theorem dX5_doOrderRead_75 : decode cX5_doOrderRead 75 = .ok (.invokevirtual 110, 3) := by decide +kernel
theorem dX5_doOrderRead_78 : decode cX5_doOrderRead 78 = .ok (.pop, 1) := by decide +kernel
theorem dX5_doOrderRead_79 : decode cX5_doOrderRead 79 = .ok (.iinc 3 1, 3) := by decide +kernel
theorem dX5_doOrderRead_82 : decode cX5_doOrderRead 82 = .ok (.goto (-29), 3) := by decide +kernel
theorem dX5_doOrderRead_85 : decode cX5_doOrderRead 85 = .ok (.iload_n 2, 1) := by decide +kernel
theorem dX5_doOrderRead_86 : decode cX5_doOrderRead 86 = .ok (.ireturn, 1) := by decide +kernel
theorem dX5_wayOf_0 : decode cX5_wayOf 0 = .ok (.iload_n 0, 1) := by decide +kernel
theorem dX5_wayOf_1 : decode cX5_wayOf 1 = .ok (.tableswitch 52 0 3 #[31, 52, 33, 39], 31) := by decide +kernel
theorem dX5_wayOf_32 : decode cX5_wayOf 32 = .ok (.iconst 1, 1) := by decide +kernel
theorem dX5_wayOf_33 : decode cX5_wayOf 33 = .ok (.ireturn, 1) := by decide +kernel
theorem dX5_wayOf_34 : decode cX5_wayOf 34 = .ok (.iconst 1, 1) := by decide +kernel
theorem dX5_wayOf_35 : decode cX5_wayOf 35 = .ok (.iload_n 1, 1) := by decide +kernel
theorem dX5_wayOf_36 : decode cX5_wayOf 36 = .ok (.iconst 1, 1) := by decide +kernel
theorem dX5_wayOf_37 : decode cX5_wayOf 37 = .ok (.iand, 1) := by decide +kernel
theorem dX5_wayOf_38 : decode cX5_wayOf 38 = .ok (.isub, 1) := by decide +kernel
theorem dX5_wayOf_39 : decode cX5_wayOf 39 = .ok (.ireturn, 1) := by decide +kernel
theorem dX5_wayOf_40 : decode cX5_wayOf 40 = .ok (.iload_n 1, 1) := by decide +kernel
theorem dX5_wayOf_41 : decode cX5_wayOf 41 = .ok (.iload_n 2, 1) := by decide +kernel
theorem dX5_wayOf_42 : decode cX5_wayOf 42 = .ok (.iconst 1, 1) := by decide +kernel
theorem dX5_wayOf_43 : decode cX5_wayOf 43 = .ok (.isub, 1) := by decide +kernel
theorem dX5_wayOf_44 : decode cX5_wayOf 44 = .ok (.if_icmp .ge 7, 3) := by decide +kernel
theorem dX5_wayOf_47 : decode cX5_wayOf 47 = .ok (.iconst 1, 1) := by decide +kernel
theorem dX5_wayOf_48 : decode cX5_wayOf 48 = .ok (.goto 4, 3) := by decide +kernel
theorem dX5_wayOf_51 : decode cX5_wayOf 51 = .ok (.iconst 0, 1) := by decide +kernel
theorem dX5_wayOf_52 : decode cX5_wayOf 52 = .ok (.ireturn, 1) := by decide +kernel
theorem dX5_wayOf_53 : decode cX5_wayOf 53 = .ok (.iconst 0, 1) := by decide +kernel
theorem dX5_wayOf_54 : decode cX5_wayOf 54 = .ok (.ireturn, 1) := by decide +kernel
theorem dL_law_0 : decode cL_law 0 = .ok (.new 7, 3) := by decide +kernel
theorem dL_law_3 : decode cL_law 3 = .ok (.dup, 1) := by decide +kernel
theorem dL_law_4 : decode cL_law 4 = .ok (.invokespecial 9, 3) := by decide +kernel
theorem dL_law_7 : decode cL_law 7 = .ok (.astore_n 1, 1) := by decide +kernel
theorem dL_law_8 : decode cL_law 8 = .ok (.new 10, 3) := by decide +kernel
theorem dL_law_11 : decode cL_law 11 = .ok (.dup, 1) := by decide +kernel
theorem dL_law_12 : decode cL_law 12 = .ok (.invokespecial 12, 3) := by decide +kernel
theorem dL_law_15 : decode cL_law 15 = .ok (.astore_n 2, 1) := by decide +kernel
theorem dL_law_16 : decode cL_law 16 = .ok (.iconst 0, 1) := by decide +kernel
theorem dL_law_17 : decode cL_law 17 = .ok (.istore_n 3, 1) := by decide +kernel
theorem dL_law_18 : decode cL_law 18 = .ok (.iload_n 3, 1) := by decide +kernel
theorem dL_law_19 : decode cL_law 19 = .ok (.aload_n 0, 1) := by decide +kernel
theorem dL_law_20 : decode cL_law 20 = .ok (.arraylength, 1) := by decide +kernel
theorem dL_law_21 : decode cL_law 21 = .ok (.iconst 5, 1) := by decide +kernel
theorem dL_law_22 : decode cL_law 22 = .ok (.isub, 1) := by decide +kernel
theorem dL_law_23 : decode cL_law 23 = .ok (.if_icmp .gt 886, 3) := by decide +kernel
theorem dL_law_26 : decode cL_law 26 = .ok (.aload_n 0, 1) := by decide +kernel
theorem dL_law_27 : decode cL_law 27 = .ok (.iload_n 3, 1) := by decide +kernel
theorem dL_law_28 : decode cL_law 28 = .ok (.iaload, 1) := by decide +kernel
theorem dL_law_29 : decode cL_law 29 = .ok (.bipush 31, 2) := by decide +kernel
theorem dL_law_31 : decode cL_law 31 = .ok (.iand, 1) := by decide +kernel
theorem dL_law_32 : decode cL_law 32 = .ok (.tableswitch 871 0 24 #[116, 149, 192, 225, 248, 281, 324, 357, 390, 423, 456, 489, 512, 535, 568, 601, 624, 667, 710, 763, 786, 799, 822, 835, 858], 116) := by decide +kernel
theorem dL_law_148 : decode cL_law 148 = .ok (.aload_n 1, 1) := by decide +kernel
theorem dL_law_149 : decode cL_law 149 = .ok (.aload_n 0, 1) := by decide +kernel
theorem dL_law_150 : decode cL_law 150 = .ok (.iload_n 3, 1) := by decide +kernel
theorem dL_law_151 : decode cL_law 151 = .ok (.iconst 1, 1) := by decide +kernel
theorem dL_law_152 : decode cL_law 152 = .ok (.iadd, 1) := by decide +kernel
theorem dL_law_153 : decode cL_law 153 = .ok (.iaload, 1) := by decide +kernel
theorem dL_law_154 : decode cL_law 154 = .ok (.aload_n 0, 1) := by decide +kernel
theorem dL_law_155 : decode cL_law 155 = .ok (.iload_n 3, 1) := by decide +kernel
theorem dL_law_156 : decode cL_law 156 = .ok (.iconst 2, 1) := by decide +kernel
theorem dL_law_157 : decode cL_law 157 = .ok (.iadd, 1) := by decide +kernel
theorem dL_law_158 : decode cL_law 158 = .ok (.iaload, 1) := by decide +kernel
theorem dL_law_159 : decode cL_law 159 = .ok (.invokevirtual 13, 3) := by decide +kernel
theorem dL_law_162 : decode cL_law 162 = .ok (.aload_n 2, 1) := by decide +kernel
theorem dL_law_163 : decode cL_law 163 = .ok (.aload_n 0, 1) := by decide +kernel
theorem dL_law_164 : decode cL_law 164 = .ok (.iload_n 3, 1) := by decide +kernel
theorem dL_law_165 : decode cL_law 165 = .ok (.iconst 1, 1) := by decide +kernel
theorem dL_law_166 : decode cL_law 166 = .ok (.iadd, 1) := by decide +kernel
theorem dL_law_167 : decode cL_law 167 = .ok (.iaload, 1) := by decide +kernel
theorem dL_law_168 : decode cL_law 168 = .ok (.aload_n 0, 1) := by decide +kernel
theorem dL_law_169 : decode cL_law 169 = .ok (.iload_n 3, 1) := by decide +kernel
theorem dL_law_170 : decode cL_law 170 = .ok (.iconst 2, 1) := by decide +kernel
theorem dL_law_171 : decode cL_law 171 = .ok (.iadd, 1) := by decide +kernel
theorem dL_law_172 : decode cL_law 172 = .ok (.iaload, 1) := by decide +kernel
theorem dL_law_173 : decode cL_law 173 = .ok (.invokevirtual 17, 3) := by decide +kernel
theorem dL_law_176 : decode cL_law 176 = .ok (.if_icmp .eq 727, 3) := by decide +kernel
theorem dL_law_179 : decode cL_law 179 = .ok (.iconst 0, 1) := by decide +kernel
theorem dL_law_180 : decode cL_law 180 = .ok (.ireturn, 1) := by decide +kernel
theorem dL_law_181 : decode cL_law 181 = .ok (.aload_n 1, 1) := by decide +kernel
theorem dL_law_182 : decode cL_law 182 = .ok (.aload_n 0, 1) := by decide +kernel
theorem dL_law_183 : decode cL_law 183 = .ok (.iload_n 3, 1) := by decide +kernel
theorem dL_law_184 : decode cL_law 184 = .ok (.iconst 1, 1) := by decide +kernel
theorem dL_law_185 : decode cL_law 185 = .ok (.iadd, 1) := by decide +kernel
theorem dL_law_186 : decode cL_law 186 = .ok (.iaload, 1) := by decide +kernel
theorem dL_law_187 : decode cL_law 187 = .ok (.aload_n 0, 1) := by decide +kernel
theorem dL_law_188 : decode cL_law 188 = .ok (.iload_n 3, 1) := by decide +kernel
theorem dL_law_189 : decode cL_law 189 = .ok (.iconst 2, 1) := by decide +kernel
theorem dL_law_190 : decode cL_law 190 = .ok (.iadd, 1) := by decide +kernel
theorem dL_law_191 : decode cL_law 191 = .ok (.iaload, 1) := by decide +kernel
theorem dL_law_192 : decode cL_law 192 = .ok (.aload_n 0, 1) := by decide +kernel
theorem dL_law_193 : decode cL_law 193 = .ok (.iload_n 3, 1) := by decide +kernel
theorem dL_law_194 : decode cL_law 194 = .ok (.iconst 3, 1) := by decide +kernel
theorem dL_law_195 : decode cL_law 195 = .ok (.iadd, 1) := by decide +kernel
theorem dL_law_196 : decode cL_law 196 = .ok (.iaload, 1) := by decide +kernel
theorem dL_law_197 : decode cL_law 197 = .ok (.invokevirtual 18, 3) := by decide +kernel
theorem dL_law_200 : decode cL_law 200 = .ok (.aload_n 2, 1) := by decide +kernel
theorem dL_law_201 : decode cL_law 201 = .ok (.aload_n 0, 1) := by decide +kernel
theorem dL_law_202 : decode cL_law 202 = .ok (.iload_n 3, 1) := by decide +kernel
theorem dL_law_203 : decode cL_law 203 = .ok (.iconst 1, 1) := by decide +kernel
theorem dL_law_204 : decode cL_law 204 = .ok (.iadd, 1) := by decide +kernel
theorem dL_law_205 : decode cL_law 205 = .ok (.iaload, 1) := by decide +kernel
theorem dL_law_206 : decode cL_law 206 = .ok (.aload_n 0, 1) := by decide +kernel
theorem dL_law_207 : decode cL_law 207 = .ok (.iload_n 3, 1) := by decide +kernel
theorem dL_law_208 : decode cL_law 208 = .ok (.iconst 2, 1) := by decide +kernel
theorem dL_law_209 : decode cL_law 209 = .ok (.iadd, 1) := by decide +kernel
theorem dL_law_210 : decode cL_law 210 = .ok (.iaload, 1) := by decide +kernel
theorem dL_law_211 : decode cL_law 211 = .ok (.aload_n 0, 1) := by decide +kernel
theorem dL_law_212 : decode cL_law 212 = .ok (.iload_n 3, 1) := by decide +kernel
theorem dL_law_213 : decode cL_law 213 = .ok (.iconst 3, 1) := by decide +kernel
theorem dL_law_214 : decode cL_law 214 = .ok (.iadd, 1) := by decide +kernel
theorem dL_law_215 : decode cL_law 215 = .ok (.iaload, 1) := by decide +kernel
theorem dL_law_216 : decode cL_law 216 = .ok (.invokevirtual 22, 3) := by decide +kernel
theorem dL_law_219 : decode cL_law 219 = .ok (.if_icmp .eq 684, 3) := by decide +kernel
theorem dL_law_222 : decode cL_law 222 = .ok (.iconst 0, 1) := by decide +kernel
theorem dL_law_223 : decode cL_law 223 = .ok (.ireturn, 1) := by decide +kernel
theorem dL_law_224 : decode cL_law 224 = .ok (.aload_n 1, 1) := by decide +kernel
theorem dL_law_225 : decode cL_law 225 = .ok (.aload_n 0, 1) := by decide +kernel
theorem dL_law_226 : decode cL_law 226 = .ok (.iload_n 3, 1) := by decide +kernel
theorem dL_law_227 : decode cL_law 227 = .ok (.iconst 1, 1) := by decide +kernel
theorem dL_law_228 : decode cL_law 228 = .ok (.iadd, 1) := by decide +kernel
theorem dL_law_229 : decode cL_law 229 = .ok (.iaload, 1) := by decide +kernel
theorem dL_law_230 : decode cL_law 230 = .ok (.aload_n 0, 1) := by decide +kernel
theorem dL_law_231 : decode cL_law 231 = .ok (.iload_n 3, 1) := by decide +kernel
theorem dL_law_232 : decode cL_law 232 = .ok (.iconst 2, 1) := by decide +kernel
theorem dL_law_233 : decode cL_law 233 = .ok (.iadd, 1) := by decide +kernel
theorem dL_law_234 : decode cL_law 234 = .ok (.iaload, 1) := by decide +kernel
theorem dL_law_235 : decode cL_law 235 = .ok (.invokevirtual 23, 3) := by decide +kernel
theorem dL_law_238 : decode cL_law 238 = .ok (.aload_n 2, 1) := by decide +kernel
theorem dL_law_239 : decode cL_law 239 = .ok (.aload_n 0, 1) := by decide +kernel
theorem dL_law_240 : decode cL_law 240 = .ok (.iload_n 3, 1) := by decide +kernel
theorem dL_law_241 : decode cL_law 241 = .ok (.iconst 1, 1) := by decide +kernel
theorem dL_law_242 : decode cL_law 242 = .ok (.iadd, 1) := by decide +kernel
theorem dL_law_243 : decode cL_law 243 = .ok (.iaload, 1) := by decide +kernel
theorem dL_law_244 : decode cL_law 244 = .ok (.aload_n 0, 1) := by decide +kernel
theorem dL_law_245 : decode cL_law 245 = .ok (.iload_n 3, 1) := by decide +kernel
theorem dL_law_246 : decode cL_law 246 = .ok (.iconst 2, 1) := by decide +kernel
theorem dL_law_247 : decode cL_law 247 = .ok (.iadd, 1) := by decide +kernel
theorem dL_law_248 : decode cL_law 248 = .ok (.iaload, 1) := by decide +kernel
theorem dL_law_249 : decode cL_law 249 = .ok (.invokevirtual 26, 3) := by decide +kernel
theorem dL_law_252 : decode cL_law 252 = .ok (.if_icmp .eq 651, 3) := by decide +kernel
theorem dL_law_255 : decode cL_law 255 = .ok (.iconst 0, 1) := by decide +kernel
theorem dL_law_256 : decode cL_law 256 = .ok (.ireturn, 1) := by decide +kernel
theorem dL_law_257 : decode cL_law 257 = .ok (.aload_n 1, 1) := by decide +kernel
theorem dL_law_258 : decode cL_law 258 = .ok (.aload_n 0, 1) := by decide +kernel
theorem dL_law_259 : decode cL_law 259 = .ok (.iload_n 3, 1) := by decide +kernel
theorem dL_law_260 : decode cL_law 260 = .ok (.iconst 1, 1) := by decide +kernel
theorem dL_law_261 : decode cL_law 261 = .ok (.iadd, 1) := by decide +kernel
theorem dL_law_262 : decode cL_law 262 = .ok (.iaload, 1) := by decide +kernel
theorem dL_law_263 : decode cL_law 263 = .ok (.invokevirtual 27, 3) := by decide +kernel
theorem dL_law_266 : decode cL_law 266 = .ok (.aload_n 2, 1) := by decide +kernel
theorem dL_law_267 : decode cL_law 267 = .ok (.aload_n 0, 1) := by decide +kernel
theorem dL_law_268 : decode cL_law 268 = .ok (.iload_n 3, 1) := by decide +kernel
theorem dL_law_269 : decode cL_law 269 = .ok (.iconst 1, 1) := by decide +kernel
theorem dL_law_270 : decode cL_law 270 = .ok (.iadd, 1) := by decide +kernel
theorem dL_law_271 : decode cL_law 271 = .ok (.iaload, 1) := by decide +kernel
theorem dL_law_272 : decode cL_law 272 = .ok (.invokevirtual 31, 3) := by decide +kernel
theorem dL_law_275 : decode cL_law 275 = .ok (.if_icmp .eq 628, 3) := by decide +kernel
theorem dL_law_278 : decode cL_law 278 = .ok (.iconst 0, 1) := by decide +kernel
theorem dL_law_279 : decode cL_law 279 = .ok (.ireturn, 1) := by decide +kernel
theorem dL_law_280 : decode cL_law 280 = .ok (.aload_n 1, 1) := by decide +kernel
theorem dL_law_281 : decode cL_law 281 = .ok (.aload_n 0, 1) := by decide +kernel
theorem dL_law_282 : decode cL_law 282 = .ok (.iload_n 3, 1) := by decide +kernel
theorem dL_law_283 : decode cL_law 283 = .ok (.iconst 1, 1) := by decide +kernel
theorem dL_law_284 : decode cL_law 284 = .ok (.iadd, 1) := by decide +kernel
theorem dL_law_285 : decode cL_law 285 = .ok (.iaload, 1) := by decide +kernel
theorem dL_law_286 : decode cL_law 286 = .ok (.aload_n 0, 1) := by decide +kernel
theorem dL_law_287 : decode cL_law 287 = .ok (.iload_n 3, 1) := by decide +kernel
theorem dL_law_288 : decode cL_law 288 = .ok (.iconst 2, 1) := by decide +kernel
theorem dL_law_289 : decode cL_law 289 = .ok (.iadd, 1) := by decide +kernel
theorem dL_law_290 : decode cL_law 290 = .ok (.iaload, 1) := by decide +kernel
theorem dL_law_291 : decode cL_law 291 = .ok (.invokevirtual 32, 3) := by decide +kernel
theorem dL_law_294 : decode cL_law 294 = .ok (.aload_n 2, 1) := by decide +kernel
theorem dL_law_295 : decode cL_law 295 = .ok (.aload_n 0, 1) := by decide +kernel
theorem dL_law_296 : decode cL_law 296 = .ok (.iload_n 3, 1) := by decide +kernel
theorem dL_law_297 : decode cL_law 297 = .ok (.iconst 1, 1) := by decide +kernel
theorem dL_law_298 : decode cL_law 298 = .ok (.iadd, 1) := by decide +kernel
theorem dL_law_299 : decode cL_law 299 = .ok (.iaload, 1) := by decide +kernel
theorem dL_law_300 : decode cL_law 300 = .ok (.aload_n 0, 1) := by decide +kernel
theorem dL_law_301 : decode cL_law 301 = .ok (.iload_n 3, 1) := by decide +kernel
theorem dL_law_302 : decode cL_law 302 = .ok (.iconst 2, 1) := by decide +kernel
theorem dL_law_303 : decode cL_law 303 = .ok (.iadd, 1) := by decide +kernel
theorem dL_law_304 : decode cL_law 304 = .ok (.iaload, 1) := by decide +kernel
theorem dL_law_305 : decode cL_law 305 = .ok (.invokevirtual 35, 3) := by decide +kernel
theorem dL_law_308 : decode cL_law 308 = .ok (.if_icmp .eq 595, 3) := by decide +kernel
theorem dL_law_311 : decode cL_law 311 = .ok (.iconst 0, 1) := by decide +kernel
theorem dL_law_312 : decode cL_law 312 = .ok (.ireturn, 1) := by decide +kernel
theorem dL_law_313 : decode cL_law 313 = .ok (.aload_n 1, 1) := by decide +kernel
theorem dL_law_314 : decode cL_law 314 = .ok (.aload_n 0, 1) := by decide +kernel
theorem dL_law_315 : decode cL_law 315 = .ok (.iload_n 3, 1) := by decide +kernel
theorem dL_law_316 : decode cL_law 316 = .ok (.iconst 1, 1) := by decide +kernel
theorem dL_law_317 : decode cL_law 317 = .ok (.iadd, 1) := by decide +kernel
theorem dL_law_318 : decode cL_law 318 = .ok (.iaload, 1) := by decide +kernel
theorem dL_law_319 : decode cL_law 319 = .ok (.aload_n 0, 1) := by decide +kernel
theorem dL_law_320 : decode cL_law 320 = .ok (.iload_n 3, 1) := by decide +kernel
theorem dL_law_321 : decode cL_law 321 = .ok (.iconst 2, 1) := by decide +kernel
theorem dL_law_322 : decode cL_law 322 = .ok (.iadd, 1) := by decide +kernel
theorem dL_law_323 : decode cL_law 323 = .ok (.iaload, 1) := by decide +kernel
theorem dL_law_324 : decode cL_law 324 = .ok (.aload_n 0, 1) := by decide +kernel
theorem dL_law_325 : decode cL_law 325 = .ok (.iload_n 3, 1) := by decide +kernel
theorem dL_law_326 : decode cL_law 326 = .ok (.iconst 3, 1) := by decide +kernel
theorem dL_law_327 : decode cL_law 327 = .ok (.iadd, 1) := by decide +kernel
theorem dL_law_328 : decode cL_law 328 = .ok (.iaload, 1) := by decide +kernel
theorem dL_law_329 : decode cL_law 329 = .ok (.invokevirtual 36, 3) := by decide +kernel
theorem dL_law_332 : decode cL_law 332 = .ok (.aload_n 2, 1) := by decide +kernel
theorem dL_law_333 : decode cL_law 333 = .ok (.aload_n 0, 1) := by decide +kernel
theorem dL_law_334 : decode cL_law 334 = .ok (.iload_n 3, 1) := by decide +kernel
theorem dL_law_335 : decode cL_law 335 = .ok (.iconst 1, 1) := by decide +kernel
theorem dL_law_336 : decode cL_law 336 = .ok (.iadd, 1) := by decide +kernel
theorem dL_law_337 : decode cL_law 337 = .ok (.iaload, 1) := by decide +kernel
theorem dL_law_338 : decode cL_law 338 = .ok (.aload_n 0, 1) := by decide +kernel
theorem dL_law_339 : decode cL_law 339 = .ok (.iload_n 3, 1) := by decide +kernel
theorem dL_law_340 : decode cL_law 340 = .ok (.iconst 2, 1) := by decide +kernel
theorem dL_law_341 : decode cL_law 341 = .ok (.iadd, 1) := by decide +kernel
theorem dL_law_342 : decode cL_law 342 = .ok (.iaload, 1) := by decide +kernel
theorem dL_law_343 : decode cL_law 343 = .ok (.aload_n 0, 1) := by decide +kernel
theorem dL_law_344 : decode cL_law 344 = .ok (.iload_n 3, 1) := by decide +kernel
theorem dL_law_345 : decode cL_law 345 = .ok (.iconst 3, 1) := by decide +kernel
theorem dL_law_346 : decode cL_law 346 = .ok (.iadd, 1) := by decide +kernel
theorem dL_law_347 : decode cL_law 347 = .ok (.iaload, 1) := by decide +kernel
theorem dL_law_348 : decode cL_law 348 = .ok (.invokevirtual 39, 3) := by decide +kernel
theorem dL_law_351 : decode cL_law 351 = .ok (.if_icmp .eq 552, 3) := by decide +kernel
theorem dL_law_354 : decode cL_law 354 = .ok (.iconst 0, 1) := by decide +kernel
theorem dL_law_355 : decode cL_law 355 = .ok (.ireturn, 1) := by decide +kernel
theorem dL_law_356 : decode cL_law 356 = .ok (.aload_n 1, 1) := by decide +kernel
theorem dL_law_357 : decode cL_law 357 = .ok (.aload_n 0, 1) := by decide +kernel
theorem dL_law_358 : decode cL_law 358 = .ok (.iload_n 3, 1) := by decide +kernel
theorem dL_law_359 : decode cL_law 359 = .ok (.iconst 1, 1) := by decide +kernel
theorem dL_law_360 : decode cL_law 360 = .ok (.iadd, 1) := by decide +kernel
theorem dL_law_361 : decode cL_law 361 = .ok (.iaload, 1) := by decide +kernel
theorem dL_law_362 : decode cL_law 362 = .ok (.aload_n 0, 1) := by decide +kernel
theorem dL_law_363 : decode cL_law 363 = .ok (.iload_n 3, 1) := by decide +kernel
theorem dL_law_364 : decode cL_law 364 = .ok (.iconst 2, 1) := by decide +kernel
theorem dL_law_365 : decode cL_law 365 = .ok (.iadd, 1) := by decide +kernel
theorem dL_law_366 : decode cL_law 366 = .ok (.iaload, 1) := by decide +kernel
theorem dL_law_367 : decode cL_law 367 = .ok (.invokevirtual 40, 3) := by decide +kernel
theorem dL_law_370 : decode cL_law 370 = .ok (.aload_n 2, 1) := by decide +kernel
theorem dL_law_371 : decode cL_law 371 = .ok (.aload_n 0, 1) := by decide +kernel
theorem dL_law_372 : decode cL_law 372 = .ok (.iload_n 3, 1) := by decide +kernel
theorem dL_law_373 : decode cL_law 373 = .ok (.iconst 1, 1) := by decide +kernel
theorem dL_law_374 : decode cL_law 374 = .ok (.iadd, 1) := by decide +kernel
theorem dL_law_375 : decode cL_law 375 = .ok (.iaload, 1) := by decide +kernel
theorem dL_law_376 : decode cL_law 376 = .ok (.aload_n 0, 1) := by decide +kernel
theorem dL_law_377 : decode cL_law 377 = .ok (.iload_n 3, 1) := by decide +kernel
theorem dL_law_378 : decode cL_law 378 = .ok (.iconst 2, 1) := by decide +kernel
theorem dL_law_379 : decode cL_law 379 = .ok (.iadd, 1) := by decide +kernel
theorem dL_law_380 : decode cL_law 380 = .ok (.iaload, 1) := by decide +kernel
theorem dL_law_381 : decode cL_law 381 = .ok (.invokevirtual 43, 3) := by decide +kernel
theorem dL_law_384 : decode cL_law 384 = .ok (.if_icmp .eq 519, 3) := by decide +kernel
theorem dL_law_387 : decode cL_law 387 = .ok (.iconst 0, 1) := by decide +kernel
theorem dL_law_388 : decode cL_law 388 = .ok (.ireturn, 1) := by decide +kernel
theorem dL_law_389 : decode cL_law 389 = .ok (.aload_n 1, 1) := by decide +kernel
theorem dL_law_390 : decode cL_law 390 = .ok (.aload_n 0, 1) := by decide +kernel
theorem dL_law_391 : decode cL_law 391 = .ok (.iload_n 3, 1) := by decide +kernel
theorem dL_law_392 : decode cL_law 392 = .ok (.iconst 1, 1) := by decide +kernel
theorem dL_law_393 : decode cL_law 393 = .ok (.iadd, 1) := by decide +kernel
theorem dL_law_394 : decode cL_law 394 = .ok (.iaload, 1) := by decide +kernel
theorem dL_law_395 : decode cL_law 395 = .ok (.aload_n 0, 1) := by decide +kernel
theorem dL_law_396 : decode cL_law 396 = .ok (.iload_n 3, 1) := by decide +kernel
theorem dL_law_397 : decode cL_law 397 = .ok (.iconst 2, 1) := by decide +kernel
theorem dL_law_398 : decode cL_law 398 = .ok (.iadd, 1) := by decide +kernel
theorem dL_law_399 : decode cL_law 399 = .ok (.iaload, 1) := by decide +kernel
theorem dL_law_400 : decode cL_law 400 = .ok (.invokevirtual 44, 3) := by decide +kernel
theorem dL_law_403 : decode cL_law 403 = .ok (.aload_n 2, 1) := by decide +kernel
theorem dL_law_404 : decode cL_law 404 = .ok (.aload_n 0, 1) := by decide +kernel
theorem dL_law_405 : decode cL_law 405 = .ok (.iload_n 3, 1) := by decide +kernel
theorem dL_law_406 : decode cL_law 406 = .ok (.iconst 1, 1) := by decide +kernel
theorem dL_law_407 : decode cL_law 407 = .ok (.iadd, 1) := by decide +kernel
theorem dL_law_408 : decode cL_law 408 = .ok (.iaload, 1) := by decide +kernel
theorem dL_law_409 : decode cL_law 409 = .ok (.aload_n 0, 1) := by decide +kernel
theorem dL_law_410 : decode cL_law 410 = .ok (.iload_n 3, 1) := by decide +kernel
theorem dL_law_411 : decode cL_law 411 = .ok (.iconst 2, 1) := by decide +kernel
theorem dL_law_412 : decode cL_law 412 = .ok (.iadd, 1) := by decide +kernel
theorem dL_law_413 : decode cL_law 413 = .ok (.iaload, 1) := by decide +kernel
theorem dL_law_414 : decode cL_law 414 = .ok (.invokevirtual 47, 3) := by decide +kernel
theorem dL_law_417 : decode cL_law 417 = .ok (.if_icmp .eq 486, 3) := by decide +kernel
theorem dL_law_420 : decode cL_law 420 = .ok (.iconst 0, 1) := by decide +kernel
theorem dL_law_421 : decode cL_law 421 = .ok (.ireturn, 1) := by decide +kernel
theorem dL_law_422 : decode cL_law 422 = .ok (.aload_n 1, 1) := by decide +kernel
theorem dL_law_423 : decode cL_law 423 = .ok (.aload_n 0, 1) := by decide +kernel
theorem dL_law_424 : decode cL_law 424 = .ok (.iload_n 3, 1) := by decide +kernel
theorem dL_law_425 : decode cL_law 425 = .ok (.iconst 1, 1) := by decide +kernel
theorem dL_law_426 : decode cL_law 426 = .ok (.iadd, 1) := by decide +kernel
theorem dL_law_427 : decode cL_law 427 = .ok (.iaload, 1) := by decide +kernel
theorem dL_law_428 : decode cL_law 428 = .ok (.aload_n 0, 1) := by decide +kernel
theorem dL_law_429 : decode cL_law 429 = .ok (.iload_n 3, 1) := by decide +kernel
theorem dL_law_430 : decode cL_law 430 = .ok (.iconst 2, 1) := by decide +kernel
theorem dL_law_431 : decode cL_law 431 = .ok (.iadd, 1) := by decide +kernel
theorem dL_law_432 : decode cL_law 432 = .ok (.iaload, 1) := by decide +kernel
theorem dL_law_433 : decode cL_law 433 = .ok (.invokevirtual 48, 3) := by decide +kernel
theorem dL_law_436 : decode cL_law 436 = .ok (.aload_n 2, 1) := by decide +kernel
theorem dL_law_437 : decode cL_law 437 = .ok (.aload_n 0, 1) := by decide +kernel
theorem dL_law_438 : decode cL_law 438 = .ok (.iload_n 3, 1) := by decide +kernel
theorem dL_law_439 : decode cL_law 439 = .ok (.iconst 1, 1) := by decide +kernel
theorem dL_law_440 : decode cL_law 440 = .ok (.iadd, 1) := by decide +kernel
theorem dL_law_441 : decode cL_law 441 = .ok (.iaload, 1) := by decide +kernel
theorem dL_law_442 : decode cL_law 442 = .ok (.aload_n 0, 1) := by decide +kernel
theorem dL_law_443 : decode cL_law 443 = .ok (.iload_n 3, 1) := by decide +kernel
theorem dL_law_444 : decode cL_law 444 = .ok (.iconst 2, 1) := by decide +kernel
theorem dL_law_445 : decode cL_law 445 = .ok (.iadd, 1) := by decide +kernel
theorem dL_law_446 : decode cL_law 446 = .ok (.iaload, 1) := by decide +kernel
theorem dL_law_447 : decode cL_law 447 = .ok (.invokevirtual 51, 3) := by decide +kernel
theorem dL_law_450 : decode cL_law 450 = .ok (.if_icmp .eq 453, 3) := by decide +kernel
theorem dL_law_453 : decode cL_law 453 = .ok (.iconst 0, 1) := by decide +kernel
theorem dL_law_454 : decode cL_law 454 = .ok (.ireturn, 1) := by decide +kernel
theorem dL_law_455 : decode cL_law 455 = .ok (.aload_n 1, 1) := by decide +kernel
theorem dL_law_456 : decode cL_law 456 = .ok (.aload_n 0, 1) := by decide +kernel
theorem dL_law_457 : decode cL_law 457 = .ok (.iload_n 3, 1) := by decide +kernel
theorem dL_law_458 : decode cL_law 458 = .ok (.iconst 1, 1) := by decide +kernel
theorem dL_law_459 : decode cL_law 459 = .ok (.iadd, 1) := by decide +kernel
theorem dL_law_460 : decode cL_law 460 = .ok (.iaload, 1) := by decide +kernel
theorem dL_law_461 : decode cL_law 461 = .ok (.aload_n 0, 1) := by decide +kernel
theorem dL_law_462 : decode cL_law 462 = .ok (.iload_n 3, 1) := by decide +kernel
theorem dL_law_463 : decode cL_law 463 = .ok (.iconst 2, 1) := by decide +kernel
theorem dL_law_464 : decode cL_law 464 = .ok (.iadd, 1) := by decide +kernel
theorem dL_law_465 : decode cL_law 465 = .ok (.iaload, 1) := by decide +kernel
theorem dL_law_466 : decode cL_law 466 = .ok (.invokevirtual 52, 3) := by decide +kernel
theorem dL_law_469 : decode cL_law 469 = .ok (.aload_n 2, 1) := by decide +kernel
theorem dL_law_470 : decode cL_law 470 = .ok (.aload_n 0, 1) := by decide +kernel
theorem dL_law_471 : decode cL_law 471 = .ok (.iload_n 3, 1) := by decide +kernel
theorem dL_law_472 : decode cL_law 472 = .ok (.iconst 1, 1) := by decide +kernel
theorem dL_law_473 : decode cL_law 473 = .ok (.iadd, 1) := by decide +kernel
theorem dL_law_474 : decode cL_law 474 = .ok (.iaload, 1) := by decide +kernel
theorem dL_law_475 : decode cL_law 475 = .ok (.aload_n 0, 1) := by decide +kernel
theorem dL_law_476 : decode cL_law 476 = .ok (.iload_n 3, 1) := by decide +kernel
theorem dL_law_477 : decode cL_law 477 = .ok (.iconst 2, 1) := by decide +kernel
theorem dL_law_478 : decode cL_law 478 = .ok (.iadd, 1) := by decide +kernel
theorem dL_law_479 : decode cL_law 479 = .ok (.iaload, 1) := by decide +kernel
theorem dL_law_480 : decode cL_law 480 = .ok (.invokevirtual 55, 3) := by decide +kernel
theorem dL_law_483 : decode cL_law 483 = .ok (.if_icmp .eq 420, 3) := by decide +kernel
theorem dL_law_486 : decode cL_law 486 = .ok (.iconst 0, 1) := by decide +kernel
theorem dL_law_487 : decode cL_law 487 = .ok (.ireturn, 1) := by decide +kernel
theorem dL_law_488 : decode cL_law 488 = .ok (.aload_n 1, 1) := by decide +kernel
theorem dL_law_489 : decode cL_law 489 = .ok (.aload_n 0, 1) := by decide +kernel
theorem dL_law_490 : decode cL_law 490 = .ok (.iload_n 3, 1) := by decide +kernel
theorem dL_law_491 : decode cL_law 491 = .ok (.iconst 1, 1) := by decide +kernel
theorem dL_law_492 : decode cL_law 492 = .ok (.iadd, 1) := by decide +kernel
theorem dL_law_493 : decode cL_law 493 = .ok (.iaload, 1) := by decide +kernel
theorem dL_law_494 : decode cL_law 494 = .ok (.aload_n 0, 1) := by decide +kernel
theorem dL_law_495 : decode cL_law 495 = .ok (.iload_n 3, 1) := by decide +kernel
theorem dL_law_496 : decode cL_law 496 = .ok (.iconst 2, 1) := by decide +kernel
theorem dL_law_497 : decode cL_law 497 = .ok (.iadd, 1) := by decide +kernel
theorem dL_law_498 : decode cL_law 498 = .ok (.iaload, 1) := by decide +kernel
theorem dL_law_499 : decode cL_law 499 = .ok (.invokevirtual 56, 3) := by decide +kernel
theorem dL_law_502 : decode cL_law 502 = .ok (.aload_n 2, 1) := by decide +kernel
theorem dL_law_503 : decode cL_law 503 = .ok (.aload_n 0, 1) := by decide +kernel
theorem dL_law_504 : decode cL_law 504 = .ok (.iload_n 3, 1) := by decide +kernel
theorem dL_law_505 : decode cL_law 505 = .ok (.iconst 1, 1) := by decide +kernel
theorem dL_law_506 : decode cL_law 506 = .ok (.iadd, 1) := by decide +kernel
theorem dL_law_507 : decode cL_law 507 = .ok (.iaload, 1) := by decide +kernel
theorem dL_law_508 : decode cL_law 508 = .ok (.aload_n 0, 1) := by decide +kernel
theorem dL_law_509 : decode cL_law 509 = .ok (.iload_n 3, 1) := by decide +kernel
theorem dL_law_510 : decode cL_law 510 = .ok (.iconst 2, 1) := by decide +kernel
theorem dL_law_511 : decode cL_law 511 = .ok (.iadd, 1) := by decide +kernel
theorem dL_law_512 : decode cL_law 512 = .ok (.iaload, 1) := by decide +kernel
theorem dL_law_513 : decode cL_law 513 = .ok (.invokevirtual 59, 3) := by decide +kernel
theorem dL_law_516 : decode cL_law 516 = .ok (.if_icmp .eq 387, 3) := by decide +kernel
theorem dL_law_519 : decode cL_law 519 = .ok (.iconst 0, 1) := by decide +kernel
theorem dL_law_520 : decode cL_law 520 = .ok (.ireturn, 1) := by decide +kernel
theorem dL_law_521 : decode cL_law 521 = .ok (.aload_n 1, 1) := by decide +kernel
theorem dL_law_522 : decode cL_law 522 = .ok (.aload_n 0, 1) := by decide +kernel
theorem dL_law_523 : decode cL_law 523 = .ok (.iload_n 3, 1) := by decide +kernel
theorem dL_law_524 : decode cL_law 524 = .ok (.iconst 1, 1) := by decide +kernel
theorem dL_law_525 : decode cL_law 525 = .ok (.iadd, 1) := by decide +kernel
theorem dL_law_526 : decode cL_law 526 = .ok (.iaload, 1) := by decide +kernel
theorem dL_law_527 : decode cL_law 527 = .ok (.invokevirtual 60, 3) := by decide +kernel
theorem dL_law_530 : decode cL_law 530 = .ok (.aload_n 2, 1) := by decide +kernel
theorem dL_law_531 : decode cL_law 531 = .ok (.aload_n 0, 1) := by decide +kernel
theorem dL_law_532 : decode cL_law 532 = .ok (.iload_n 3, 1) := by decide +kernel
theorem dL_law_533 : decode cL_law 533 = .ok (.iconst 1, 1) := by decide +kernel
theorem dL_law_534 : decode cL_law 534 = .ok (.iadd, 1) := by decide +kernel
theorem dL_law_535 : decode cL_law 535 = .ok (.iaload, 1) := by decide +kernel
theorem dL_law_536 : decode cL_law 536 = .ok (.invokevirtual 63, 3) := by decide +kernel
theorem dL_law_539 : decode cL_law 539 = .ok (.if_icmp .eq 364, 3) := by decide +kernel
theorem dL_law_542 : decode cL_law 542 = .ok (.iconst 0, 1) := by decide +kernel
theorem dL_law_543 : decode cL_law 543 = .ok (.ireturn, 1) := by decide +kernel
theorem dL_law_544 : decode cL_law 544 = .ok (.aload_n 1, 1) := by decide +kernel
theorem dL_law_545 : decode cL_law 545 = .ok (.aload_n 0, 1) := by decide +kernel
theorem dL_law_546 : decode cL_law 546 = .ok (.iload_n 3, 1) := by decide +kernel
theorem dL_law_547 : decode cL_law 547 = .ok (.iconst 1, 1) := by decide +kernel
theorem dL_law_548 : decode cL_law 548 = .ok (.iadd, 1) := by decide +kernel
theorem dL_law_549 : decode cL_law 549 = .ok (.iaload, 1) := by decide +kernel
theorem dL_law_550 : decode cL_law 550 = .ok (.invokevirtual 64, 3) := by decide +kernel
theorem dL_law_553 : decode cL_law 553 = .ok (.aload_n 2, 1) := by decide +kernel
theorem dL_law_554 : decode cL_law 554 = .ok (.aload_n 0, 1) := by decide +kernel
theorem dL_law_555 : decode cL_law 555 = .ok (.iload_n 3, 1) := by decide +kernel
theorem dL_law_556 : decode cL_law 556 = .ok (.iconst 1, 1) := by decide +kernel
theorem dL_law_557 : decode cL_law 557 = .ok (.iadd, 1) := by decide +kernel
theorem dL_law_558 : decode cL_law 558 = .ok (.iaload, 1) := by decide +kernel
theorem dL_law_559 : decode cL_law 559 = .ok (.invokevirtual 67, 3) := by decide +kernel
theorem dL_law_562 : decode cL_law 562 = .ok (.if_icmp .eq 341, 3) := by decide +kernel
theorem dL_law_565 : decode cL_law 565 = .ok (.iconst 0, 1) := by decide +kernel
theorem dL_law_566 : decode cL_law 566 = .ok (.ireturn, 1) := by decide +kernel
theorem dL_law_567 : decode cL_law 567 = .ok (.aload_n 1, 1) := by decide +kernel
theorem dL_law_568 : decode cL_law 568 = .ok (.aload_n 0, 1) := by decide +kernel
theorem dL_law_569 : decode cL_law 569 = .ok (.iload_n 3, 1) := by decide +kernel
theorem dL_law_570 : decode cL_law 570 = .ok (.iconst 1, 1) := by decide +kernel
theorem dL_law_571 : decode cL_law 571 = .ok (.iadd, 1) := by decide +kernel
theorem dL_law_572 : decode cL_law 572 = .ok (.iaload, 1) := by decide +kernel
theorem dL_law_573 : decode cL_law 573 = .ok (.aload_n 0, 1) := by decide +kernel
theorem dL_law_574 : decode cL_law 574 = .ok (.iload_n 3, 1) := by decide +kernel
theorem dL_law_575 : decode cL_law 575 = .ok (.iconst 2, 1) := by decide +kernel
theorem dL_law_576 : decode cL_law 576 = .ok (.iadd, 1) := by decide +kernel
theorem dL_law_577 : decode cL_law 577 = .ok (.iaload, 1) := by decide +kernel
theorem dL_law_578 : decode cL_law 578 = .ok (.invokevirtual 68, 3) := by decide +kernel
theorem dL_law_581 : decode cL_law 581 = .ok (.aload_n 2, 1) := by decide +kernel
theorem dL_law_582 : decode cL_law 582 = .ok (.aload_n 0, 1) := by decide +kernel
theorem dL_law_583 : decode cL_law 583 = .ok (.iload_n 3, 1) := by decide +kernel
theorem dL_law_584 : decode cL_law 584 = .ok (.iconst 1, 1) := by decide +kernel
theorem dL_law_585 : decode cL_law 585 = .ok (.iadd, 1) := by decide +kernel
theorem dL_law_586 : decode cL_law 586 = .ok (.iaload, 1) := by decide +kernel
theorem dL_law_587 : decode cL_law 587 = .ok (.aload_n 0, 1) := by decide +kernel
theorem dL_law_588 : decode cL_law 588 = .ok (.iload_n 3, 1) := by decide +kernel
theorem dL_law_589 : decode cL_law 589 = .ok (.iconst 2, 1) := by decide +kernel
theorem dL_law_590 : decode cL_law 590 = .ok (.iadd, 1) := by decide +kernel
theorem dL_law_591 : decode cL_law 591 = .ok (.iaload, 1) := by decide +kernel
theorem dL_law_592 : decode cL_law 592 = .ok (.invokevirtual 71, 3) := by decide +kernel
theorem dL_law_595 : decode cL_law 595 = .ok (.if_icmp .eq 308, 3) := by decide +kernel
theorem dL_law_598 : decode cL_law 598 = .ok (.iconst 0, 1) := by decide +kernel
theorem dL_law_599 : decode cL_law 599 = .ok (.ireturn, 1) := by decide +kernel
theorem dL_law_600 : decode cL_law 600 = .ok (.aload_n 1, 1) := by decide +kernel
theorem dL_law_601 : decode cL_law 601 = .ok (.aload_n 0, 1) := by decide +kernel
theorem dL_law_602 : decode cL_law 602 = .ok (.iload_n 3, 1) := by decide +kernel
theorem dL_law_603 : decode cL_law 603 = .ok (.iconst 1, 1) := by decide +kernel
theorem dL_law_604 : decode cL_law 604 = .ok (.iadd, 1) := by decide +kernel
theorem dL_law_605 : decode cL_law 605 = .ok (.iaload, 1) := by decide +kernel
theorem dL_law_606 : decode cL_law 606 = .ok (.aload_n 0, 1) := by decide +kernel
theorem dL_law_607 : decode cL_law 607 = .ok (.iload_n 3, 1) := by decide +kernel
theorem dL_law_608 : decode cL_law 608 = .ok (.iconst 2, 1) := by decide +kernel
theorem dL_law_609 : decode cL_law 609 = .ok (.iadd, 1) := by decide +kernel
theorem dL_law_610 : decode cL_law 610 = .ok (.iaload, 1) := by decide +kernel
theorem dL_law_611 : decode cL_law 611 = .ok (.invokevirtual 72, 3) := by decide +kernel
theorem dL_law_614 : decode cL_law 614 = .ok (.aload_n 2, 1) := by decide +kernel
theorem dL_law_615 : decode cL_law 615 = .ok (.aload_n 0, 1) := by decide +kernel
theorem dL_law_616 : decode cL_law 616 = .ok (.iload_n 3, 1) := by decide +kernel
theorem dL_law_617 : decode cL_law 617 = .ok (.iconst 1, 1) := by decide +kernel
theorem dL_law_618 : decode cL_law 618 = .ok (.iadd, 1) := by decide +kernel
theorem dL_law_619 : decode cL_law 619 = .ok (.iaload, 1) := by decide +kernel
theorem dL_law_620 : decode cL_law 620 = .ok (.aload_n 0, 1) := by decide +kernel
theorem dL_law_621 : decode cL_law 621 = .ok (.iload_n 3, 1) := by decide +kernel
theorem dL_law_622 : decode cL_law 622 = .ok (.iconst 2, 1) := by decide +kernel
theorem dL_law_623 : decode cL_law 623 = .ok (.iadd, 1) := by decide +kernel
theorem dL_law_624 : decode cL_law 624 = .ok (.iaload, 1) := by decide +kernel
theorem dL_law_625 : decode cL_law 625 = .ok (.invokevirtual 75, 3) := by decide +kernel
theorem dL_law_628 : decode cL_law 628 = .ok (.if_icmp .eq 275, 3) := by decide +kernel
theorem dL_law_631 : decode cL_law 631 = .ok (.iconst 0, 1) := by decide +kernel
theorem dL_law_632 : decode cL_law 632 = .ok (.ireturn, 1) := by decide +kernel
theorem dL_law_633 : decode cL_law 633 = .ok (.aload_n 1, 1) := by decide +kernel
theorem dL_law_634 : decode cL_law 634 = .ok (.aload_n 0, 1) := by decide +kernel
theorem dL_law_635 : decode cL_law 635 = .ok (.iload_n 3, 1) := by decide +kernel
theorem dL_law_636 : decode cL_law 636 = .ok (.iconst 1, 1) := by decide +kernel
theorem dL_law_637 : decode cL_law 637 = .ok (.iadd, 1) := by decide +kernel
theorem dL_law_638 : decode cL_law 638 = .ok (.iaload, 1) := by decide +kernel
theorem dL_law_639 : decode cL_law 639 = .ok (.invokevirtual 76, 3) := by decide +kernel
theorem dL_law_642 : decode cL_law 642 = .ok (.aload_n 2, 1) := by decide +kernel
theorem dL_law_643 : decode cL_law 643 = .ok (.aload_n 0, 1) := by decide +kernel
theorem dL_law_644 : decode cL_law 644 = .ok (.iload_n 3, 1) := by decide +kernel
theorem dL_law_645 : decode cL_law 645 = .ok (.iconst 1, 1) := by decide +kernel
theorem dL_law_646 : decode cL_law 646 = .ok (.iadd, 1) := by decide +kernel
theorem dL_law_647 : decode cL_law 647 = .ok (.iaload, 1) := by decide +kernel
theorem dL_law_648 : decode cL_law 648 = .ok (.invokevirtual 79, 3) := by decide +kernel
theorem dL_law_651 : decode cL_law 651 = .ok (.if_icmp .eq 252, 3) := by decide +kernel
theorem dL_law_654 : decode cL_law 654 = .ok (.iconst 0, 1) := by decide +kernel
theorem dL_law_655 : decode cL_law 655 = .ok (.ireturn, 1) := by decide +kernel
theorem dL_law_656 : decode cL_law 656 = .ok (.aload_n 1, 1) := by decide +kernel
theorem dL_law_657 : decode cL_law 657 = .ok (.aload_n 0, 1) := by decide +kernel
theorem dL_law_658 : decode cL_law 658 = .ok (.iload_n 3, 1) := by decide +kernel
theorem dL_law_659 : decode cL_law 659 = .ok (.iconst 1, 1) := by decide +kernel
theorem dL_law_660 : decode cL_law 660 = .ok (.iadd, 1) := by decide +kernel
theorem dL_law_661 : decode cL_law 661 = .ok (.iaload, 1) := by decide +kernel
theorem dL_law_662 : decode cL_law 662 = .ok (.aload_n 0, 1) := by decide +kernel
theorem dL_law_663 : decode cL_law 663 = .ok (.iload_n 3, 1) := by decide +kernel
theorem dL_law_664 : decode cL_law 664 = .ok (.iconst 2, 1) := by decide +kernel
theorem dL_law_665 : decode cL_law 665 = .ok (.iadd, 1) := by decide +kernel
theorem dL_law_666 : decode cL_law 666 = .ok (.iaload, 1) := by decide +kernel
theorem dL_law_667 : decode cL_law 667 = .ok (.aload_n 0, 1) := by decide +kernel
theorem dL_law_668 : decode cL_law 668 = .ok (.iload_n 3, 1) := by decide +kernel
theorem dL_law_669 : decode cL_law 669 = .ok (.iconst 3, 1) := by decide +kernel
theorem dL_law_670 : decode cL_law 670 = .ok (.iadd, 1) := by decide +kernel
theorem dL_law_671 : decode cL_law 671 = .ok (.iaload, 1) := by decide +kernel
theorem dL_law_672 : decode cL_law 672 = .ok (.invokevirtual 80, 3) := by decide +kernel
theorem dL_law_675 : decode cL_law 675 = .ok (.aload_n 2, 1) := by decide +kernel
theorem dL_law_676 : decode cL_law 676 = .ok (.aload_n 0, 1) := by decide +kernel
theorem dL_law_677 : decode cL_law 677 = .ok (.iload_n 3, 1) := by decide +kernel
theorem dL_law_678 : decode cL_law 678 = .ok (.iconst 1, 1) := by decide +kernel
theorem dL_law_679 : decode cL_law 679 = .ok (.iadd, 1) := by decide +kernel
theorem dL_law_680 : decode cL_law 680 = .ok (.iaload, 1) := by decide +kernel
theorem dL_law_681 : decode cL_law 681 = .ok (.aload_n 0, 1) := by decide +kernel
theorem dL_law_682 : decode cL_law 682 = .ok (.iload_n 3, 1) := by decide +kernel
theorem dL_law_683 : decode cL_law 683 = .ok (.iconst 2, 1) := by decide +kernel
theorem dL_law_684 : decode cL_law 684 = .ok (.iadd, 1) := by decide +kernel
theorem dL_law_685 : decode cL_law 685 = .ok (.iaload, 1) := by decide +kernel
theorem dL_law_686 : decode cL_law 686 = .ok (.aload_n 0, 1) := by decide +kernel
theorem dL_law_687 : decode cL_law 687 = .ok (.iload_n 3, 1) := by decide +kernel
theorem dL_law_688 : decode cL_law 688 = .ok (.iconst 3, 1) := by decide +kernel
theorem dL_law_689 : decode cL_law 689 = .ok (.iadd, 1) := by decide +kernel
theorem dL_law_690 : decode cL_law 690 = .ok (.iaload, 1) := by decide +kernel
theorem dL_law_691 : decode cL_law 691 = .ok (.invokevirtual 83, 3) := by decide +kernel
theorem dL_law_694 : decode cL_law 694 = .ok (.if_icmp .eq 209, 3) := by decide +kernel
theorem dL_law_697 : decode cL_law 697 = .ok (.iconst 0, 1) := by decide +kernel
theorem dL_law_698 : decode cL_law 698 = .ok (.ireturn, 1) := by decide +kernel
theorem dL_law_699 : decode cL_law 699 = .ok (.aload_n 1, 1) := by decide +kernel
theorem dL_law_700 : decode cL_law 700 = .ok (.aload_n 0, 1) := by decide +kernel
theorem dL_law_701 : decode cL_law 701 = .ok (.iload_n 3, 1) := by decide +kernel
theorem dL_law_702 : decode cL_law 702 = .ok (.iconst 1, 1) := by decide +kernel
theorem dL_law_703 : decode cL_law 703 = .ok (.iadd, 1) := by decide +kernel
theorem dL_law_704 : decode cL_law 704 = .ok (.iaload, 1) := by decide +kernel
theorem dL_law_705 : decode cL_law 705 = .ok (.aload_n 0, 1) := by decide +kernel
theorem dL_law_706 : decode cL_law 706 = .ok (.iload_n 3, 1) := by decide +kernel
theorem dL_law_707 : decode cL_law 707 = .ok (.iconst 2, 1) := by decide +kernel
theorem dL_law_708 : decode cL_law 708 = .ok (.iadd, 1) := by decide +kernel
theorem dL_law_709 : decode cL_law 709 = .ok (.iaload, 1) := by decide +kernel
theorem dL_law_710 : decode cL_law 710 = .ok (.aload_n 0, 1) := by decide +kernel
theorem dL_law_711 : decode cL_law 711 = .ok (.iload_n 3, 1) := by decide +kernel
theorem dL_law_712 : decode cL_law 712 = .ok (.iconst 3, 1) := by decide +kernel
theorem dL_law_713 : decode cL_law 713 = .ok (.iadd, 1) := by decide +kernel
theorem dL_law_714 : decode cL_law 714 = .ok (.iaload, 1) := by decide +kernel
theorem dL_law_715 : decode cL_law 715 = .ok (.invokevirtual 84, 3) := by decide +kernel
theorem dL_law_718 : decode cL_law 718 = .ok (.aload_n 2, 1) := by decide +kernel
theorem dL_law_719 : decode cL_law 719 = .ok (.aload_n 0, 1) := by decide +kernel
theorem dL_law_720 : decode cL_law 720 = .ok (.iload_n 3, 1) := by decide +kernel
theorem dL_law_721 : decode cL_law 721 = .ok (.iconst 1, 1) := by decide +kernel
theorem dL_law_722 : decode cL_law 722 = .ok (.iadd, 1) := by decide +kernel
theorem dL_law_723 : decode cL_law 723 = .ok (.iaload, 1) := by decide +kernel
theorem dL_law_724 : decode cL_law 724 = .ok (.aload_n 0, 1) := by decide +kernel
theorem dL_law_725 : decode cL_law 725 = .ok (.iload_n 3, 1) := by decide +kernel
theorem dL_law_726 : decode cL_law 726 = .ok (.iconst 2, 1) := by decide +kernel
theorem dL_law_727 : decode cL_law 727 = .ok (.iadd, 1) := by decide +kernel
theorem dL_law_728 : decode cL_law 728 = .ok (.iaload, 1) := by decide +kernel
theorem dL_law_729 : decode cL_law 729 = .ok (.aload_n 0, 1) := by decide +kernel
theorem dL_law_730 : decode cL_law 730 = .ok (.iload_n 3, 1) := by decide +kernel
theorem dL_law_731 : decode cL_law 731 = .ok (.iconst 3, 1) := by decide +kernel
theorem dL_law_732 : decode cL_law 732 = .ok (.iadd, 1) := by decide +kernel
theorem dL_law_733 : decode cL_law 733 = .ok (.iaload, 1) := by decide +kernel
theorem dL_law_734 : decode cL_law 734 = .ok (.invokevirtual 87, 3) := by decide +kernel
theorem dL_law_737 : decode cL_law 737 = .ok (.if_icmp .eq 166, 3) := by decide +kernel
theorem dL_law_740 : decode cL_law 740 = .ok (.iconst 0, 1) := by decide +kernel
theorem dL_law_741 : decode cL_law 741 = .ok (.ireturn, 1) := by decide +kernel
theorem dL_law_742 : decode cL_law 742 = .ok (.aload_n 1, 1) := by decide +kernel
theorem dL_law_743 : decode cL_law 743 = .ok (.aload_n 0, 1) := by decide +kernel
theorem dL_law_744 : decode cL_law 744 = .ok (.iload_n 3, 1) := by decide +kernel
theorem dL_law_745 : decode cL_law 745 = .ok (.iconst 1, 1) := by decide +kernel
theorem dL_law_746 : decode cL_law 746 = .ok (.iadd, 1) := by decide +kernel
theorem dL_law_747 : decode cL_law 747 = .ok (.iaload, 1) := by decide +kernel
theorem dL_law_748 : decode cL_law 748 = .ok (.aload_n 0, 1) := by decide +kernel
theorem dL_law_749 : decode cL_law 749 = .ok (.iload_n 3, 1) := by decide +kernel
theorem dL_law_750 : decode cL_law 750 = .ok (.iconst 2, 1) := by decide +kernel
theorem dL_law_751 : decode cL_law 751 = .ok (.iadd, 1) := by decide +kernel
theorem dL_law_752 : decode cL_law 752 = .ok (.iaload, 1) := by decide +kernel
theorem dL_law_753 : decode cL_law 753 = .ok (.aload_n 0, 1) := by decide +kernel
theorem dL_law_754 : decode cL_law 754 = .ok (.iload_n 3, 1) := by decide +kernel
theorem dL_law_755 : decode cL_law 755 = .ok (.iconst 3, 1) := by decide +kernel
theorem dL_law_756 : decode cL_law 756 = .ok (.iadd, 1) := by decide +kernel
theorem dL_law_757 : decode cL_law 757 = .ok (.iaload, 1) := by decide +kernel
theorem dL_law_758 : decode cL_law 758 = .ok (.aload_n 0, 1) := by decide +kernel
theorem dL_law_759 : decode cL_law 759 = .ok (.iload_n 3, 1) := by decide +kernel
theorem dL_law_760 : decode cL_law 760 = .ok (.iconst 4, 1) := by decide +kernel
theorem dL_law_761 : decode cL_law 761 = .ok (.iadd, 1) := by decide +kernel
theorem dL_law_762 : decode cL_law 762 = .ok (.iaload, 1) := by decide +kernel
theorem dL_law_763 : decode cL_law 763 = .ok (.invokevirtual 88, 3) := by decide +kernel
theorem dL_law_766 : decode cL_law 766 = .ok (.aload_n 2, 1) := by decide +kernel
theorem dL_law_767 : decode cL_law 767 = .ok (.aload_n 0, 1) := by decide +kernel
theorem dL_law_768 : decode cL_law 768 = .ok (.iload_n 3, 1) := by decide +kernel
theorem dL_law_769 : decode cL_law 769 = .ok (.iconst 1, 1) := by decide +kernel
theorem dL_law_770 : decode cL_law 770 = .ok (.iadd, 1) := by decide +kernel
theorem dL_law_771 : decode cL_law 771 = .ok (.iaload, 1) := by decide +kernel
theorem dL_law_772 : decode cL_law 772 = .ok (.aload_n 0, 1) := by decide +kernel
theorem dL_law_773 : decode cL_law 773 = .ok (.iload_n 3, 1) := by decide +kernel
theorem dL_law_774 : decode cL_law 774 = .ok (.iconst 2, 1) := by decide +kernel
theorem dL_law_775 : decode cL_law 775 = .ok (.iadd, 1) := by decide +kernel
theorem dL_law_776 : decode cL_law 776 = .ok (.iaload, 1) := by decide +kernel
theorem dL_law_777 : decode cL_law 777 = .ok (.aload_n 0, 1) := by decide +kernel
theorem dL_law_778 : decode cL_law 778 = .ok (.iload_n 3, 1) := by decide +kernel
theorem dL_law_779 : decode cL_law 779 = .ok (.iconst 3, 1) := by decide +kernel
theorem dL_law_780 : decode cL_law 780 = .ok (.iadd, 1) := by decide +kernel
theorem dL_law_781 : decode cL_law 781 = .ok (.iaload, 1) := by decide +kernel
theorem dL_law_782 : decode cL_law 782 = .ok (.aload_n 0, 1) := by decide +kernel
theorem dL_law_783 : decode cL_law 783 = .ok (.iload_n 3, 1) := by decide +kernel
theorem dL_law_784 : decode cL_law 784 = .ok (.iconst 4, 1) := by decide +kernel
theorem dL_law_785 : decode cL_law 785 = .ok (.iadd, 1) := by decide +kernel
theorem dL_law_786 : decode cL_law 786 = .ok (.iaload, 1) := by decide +kernel
theorem dL_law_787 : decode cL_law 787 = .ok (.invokevirtual 92, 3) := by decide +kernel
theorem dL_law_790 : decode cL_law 790 = .ok (.if_icmp .eq 113, 3) := by decide +kernel
theorem dL_law_793 : decode cL_law 793 = .ok (.iconst 0, 1) := by decide +kernel
theorem dL_law_794 : decode cL_law 794 = .ok (.ireturn, 1) := by decide +kernel
theorem dL_law_795 : decode cL_law 795 = .ok (.aload_n 1, 1) := by decide +kernel
theorem dL_law_796 : decode cL_law 796 = .ok (.aload_n 0, 1) := by decide +kernel
theorem dL_law_797 : decode cL_law 797 = .ok (.iload_n 3, 1) := by decide +kernel
theorem dL_law_798 : decode cL_law 798 = .ok (.iconst 1, 1) := by decide +kernel
theorem dL_law_799 : decode cL_law 799 = .ok (.iadd, 1) := by decide +kernel
theorem dL_law_800 : decode cL_law 800 = .ok (.iaload, 1) := by decide +kernel
theorem dL_law_801 : decode cL_law 801 = .ok (.invokevirtual 93, 3) := by decide +kernel
theorem dL_law_804 : decode cL_law 804 = .ok (.aload_n 2, 1) := by decide +kernel
theorem dL_law_805 : decode cL_law 805 = .ok (.aload_n 0, 1) := by decide +kernel
theorem dL_law_806 : decode cL_law 806 = .ok (.iload_n 3, 1) := by decide +kernel
theorem dL_law_807 : decode cL_law 807 = .ok (.iconst 1, 1) := by decide +kernel
theorem dL_law_808 : decode cL_law 808 = .ok (.iadd, 1) := by decide +kernel
theorem dL_law_809 : decode cL_law 809 = .ok (.iaload, 1) := by decide +kernel
theorem dL_law_810 : decode cL_law 810 = .ok (.invokevirtual 96, 3) := by decide +kernel
theorem dL_law_813 : decode cL_law 813 = .ok (.if_icmp .eq 90, 3) := by decide +kernel
theorem dL_law_816 : decode cL_law 816 = .ok (.iconst 0, 1) := by decide +kernel
theorem dL_law_817 : decode cL_law 817 = .ok (.ireturn, 1) := by decide +kernel
theorem dL_law_818 : decode cL_law 818 = .ok (.aload_n 1, 1) := by decide +kernel
theorem dL_law_819 : decode cL_law 819 = .ok (.invokevirtual 97, 3) := by decide +kernel
theorem dL_law_822 : decode cL_law 822 = .ok (.aload_n 2, 1) := by decide +kernel
theorem dL_law_823 : decode cL_law 823 = .ok (.invokevirtual 101, 3) := by decide +kernel
theorem dL_law_826 : decode cL_law 826 = .ok (.if_icmp .eq 77, 3) := by decide +kernel
theorem dL_law_829 : decode cL_law 829 = .ok (.iconst 0, 1) := by decide +kernel
theorem dL_law_830 : decode cL_law 830 = .ok (.ireturn, 1) := by decide +kernel
theorem dL_law_831 : decode cL_law 831 = .ok (.aload_n 1, 1) := by decide +kernel
theorem dL_law_832 : decode cL_law 832 = .ok (.aload_n 0, 1) := by decide +kernel
theorem dL_law_833 : decode cL_law 833 = .ok (.iload_n 3, 1) := by decide +kernel
theorem dL_law_834 : decode cL_law 834 = .ok (.iconst 1, 1) := by decide +kernel
theorem dL_law_835 : decode cL_law 835 = .ok (.iadd, 1) := by decide +kernel
theorem dL_law_836 : decode cL_law 836 = .ok (.iaload, 1) := by decide +kernel
theorem dL_law_837 : decode cL_law 837 = .ok (.invokevirtual 102, 3) := by decide +kernel
theorem dL_law_840 : decode cL_law 840 = .ok (.aload_n 2, 1) := by decide +kernel
theorem dL_law_841 : decode cL_law 841 = .ok (.aload_n 0, 1) := by decide +kernel
theorem dL_law_842 : decode cL_law 842 = .ok (.iload_n 3, 1) := by decide +kernel
theorem dL_law_843 : decode cL_law 843 = .ok (.iconst 1, 1) := by decide +kernel
theorem dL_law_844 : decode cL_law 844 = .ok (.iadd, 1) := by decide +kernel
theorem dL_law_845 : decode cL_law 845 = .ok (.iaload, 1) := by decide +kernel
theorem dL_law_846 : decode cL_law 846 = .ok (.invokevirtual 105, 3) := by decide +kernel
theorem dL_law_849 : decode cL_law 849 = .ok (.if_icmp .eq 54, 3) := by decide +kernel
theorem dL_law_852 : decode cL_law 852 = .ok (.iconst 0, 1) := by decide +kernel
theorem dL_law_853 : decode cL_law 853 = .ok (.ireturn, 1) := by decide +kernel
theorem dL_law_854 : decode cL_law 854 = .ok (.aload_n 1, 1) := by decide +kernel
theorem dL_law_855 : decode cL_law 855 = .ok (.invokevirtual 106, 3) := by decide +kernel
theorem dL_law_858 : decode cL_law 858 = .ok (.aload_n 2, 1) := by decide +kernel
theorem dL_law_859 : decode cL_law 859 = .ok (.invokevirtual 109, 3) := by decide +kernel
theorem dL_law_862 : decode cL_law 862 = .ok (.if_icmp .eq 41, 3) := by decide +kernel
theorem dL_law_865 : decode cL_law 865 = .ok (.iconst 0, 1) := by decide +kernel
theorem dL_law_866 : decode cL_law 866 = .ok (.ireturn, 1) := by decide +kernel
theorem dL_law_867 : decode cL_law 867 = .ok (.aload_n 1, 1) := by decide +kernel
theorem dL_law_868 : decode cL_law 868 = .ok (.aload_n 0, 1) := by decide +kernel
theorem dL_law_869 : decode cL_law 869 = .ok (.iload_n 3, 1) := by decide +kernel
theorem dL_law_870 : decode cL_law 870 = .ok (.iconst 1, 1) := by decide +kernel
theorem dL_law_871 : decode cL_law 871 = .ok (.iadd, 1) := by decide +kernel
theorem dL_law_872 : decode cL_law 872 = .ok (.iaload, 1) := by decide +kernel
theorem dL_law_873 : decode cL_law 873 = .ok (.invokevirtual 110, 3) := by decide +kernel
theorem dL_law_876 : decode cL_law 876 = .ok (.aload_n 2, 1) := by decide +kernel
theorem dL_law_877 : decode cL_law 877 = .ok (.aload_n 0, 1) := by decide +kernel
theorem dL_law_878 : decode cL_law 878 = .ok (.iload_n 3, 1) := by decide +kernel
theorem dL_law_879 : decode cL_law 879 = .ok (.iconst 1, 1) := by decide +kernel
theorem dL_law_880 : decode cL_law 880 = .ok (.iadd, 1) := by decide +kernel
theorem dL_law_881 : decode cL_law 881 = .ok (.iaload, 1) := by decide +kernel
theorem dL_law_882 : decode cL_law 882 = .ok (.invokevirtual 113, 3) := by decide +kernel
theorem dL_law_885 : decode cL_law 885 = .ok (.if_icmp .eq 18, 3) := by decide +kernel
theorem dL_law_888 : decode cL_law 888 = .ok (.iconst 0, 1) := by decide +kernel
theorem dL_law_889 : decode cL_law 889 = .ok (.ireturn, 1) := by decide +kernel
theorem dL_law_890 : decode cL_law 890 = .ok (.aload_n 1, 1) := by decide +kernel
theorem dL_law_891 : decode cL_law 891 = .ok (.invokevirtual 114, 3) := by decide +kernel
theorem dL_law_894 : decode cL_law 894 = .ok (.aload_n 2, 1) := by decide +kernel
theorem dL_law_895 : decode cL_law 895 = .ok (.invokevirtual 117, 3) := by decide +kernel
theorem dL_law_898 : decode cL_law 898 = .ok (.if_icmp .eq 5, 3) := by decide +kernel
theorem dL_law_901 : decode cL_law 901 = .ok (.iconst 0, 1) := by decide +kernel
theorem dL_law_902 : decode cL_law 902 = .ok (.ireturn, 1) := by decide +kernel
theorem dL_law_903 : decode cL_law 903 = .ok (.iinc 3 5, 3) := by decide +kernel
theorem dL_law_906 : decode cL_law 906 = .ok (.goto (-888), 3) := by decide +kernel
theorem dL_law_909 : decode cL_law 909 = .ok (.iconst 1, 1) := by decide +kernel
theorem dL_law_910 : decode cL_law 910 = .ok (.ireturn, 1) := by decide +kernel
