theorem dX0_difficultyAt_0 : decode cX0_difficultyAt 0 = .ok (.iload_n 1, 1) := by decide +kernel
theorem dX0_difficultyAt_1 : decode cX0_difficultyAt 1 = .ok (.istore_n 2, 1) := by decide +kernel
theorem dX0_difficultyAt_2 : decode cX0_difficultyAt 2 = .ok (.bipush 100, 2) := by decide +kernel
theorem dX0_difficultyAt_4 : decode cX0_difficultyAt 4 = .ok (.istore_n 3, 1) := by decide +kernel
theorem dX0_difficultyAt_5 : decode cX0_difficultyAt 5 = .ok (.iconst 0, 1) := by decide +kernel
theorem dX0_difficultyAt_6 : decode cX0_difficultyAt 6 = .ok (.istore 4, 2) := by decide +kernel
theorem dX0_difficultyAt_8 : decode cX0_difficultyAt 8 = .ok (.iload 4, 2) := by decide +kernel
theorem dX0_difficultyAt_10 : decode cX0_difficultyAt 10 = .ok (.aload_n 0, 1) := by decide +kernel
theorem dX0_difficultyAt_11 : decode cX0_difficultyAt 11 = .ok (.invokevirtual 9, 3) := by decide +kernel
theorem dX0_difficultyAt_14 : decode cX0_difficultyAt 14 = .ok (.if_icmp .ge 84, 3) := by decide +kernel
theorem dX0_difficultyAt_17 : decode cX0_difficultyAt 17 = .ok (.aload_n 0, 1) := by decide +kernel
theorem dX0_difficultyAt_18 : decode cX0_difficultyAt 18 = .ok (.iload 4, 2) := by decide +kernel
theorem dX0_difficultyAt_20 : decode cX0_difficultyAt 20 = .ok (.iconst 2, 1) := by decide +kernel
theorem dX0_difficultyAt_21 : decode cX0_difficultyAt 21 = .ok (.invokevirtual 15, 3) := by decide +kernel
theorem dX0_difficultyAt_24 : decode cX0_difficultyAt 24 = .ok (.iload_n 1, 1) := by decide +kernel
theorem dX0_difficultyAt_25 : decode cX0_difficultyAt 25 = .ok (.ineg, 1) := by decide +kernel
theorem dX0_difficultyAt_26 : decode cX0_difficultyAt 26 = .ok (.invokestatic 19, 3) := by decide +kernel
theorem dX0_difficultyAt_29 : decode cX0_difficultyAt 29 = .ok (.istore 5, 2) := by decide +kernel
theorem dX0_difficultyAt_31 : decode cX0_difficultyAt 31 = .ok (.aload_n 0, 1) := by decide +kernel
theorem dX0_difficultyAt_32 : decode cX0_difficultyAt 32 = .ok (.iload 4, 2) := by decide +kernel
theorem dX0_difficultyAt_34 : decode cX0_difficultyAt 34 = .ok (.iconst 3, 1) := by decide +kernel
theorem dX0_difficultyAt_35 : decode cX0_difficultyAt 35 = .ok (.invokevirtual 15, 3) := by decide +kernel
theorem dX0_difficultyAt_38 : decode cX0_difficultyAt 38 = .ok (.invokestatic 24, 3) := by decide +kernel
theorem dX0_difficultyAt_41 : decode cX0_difficultyAt 41 = .ok (.iload 5, 2) := by decide +kernel
theorem dX0_difficultyAt_43 : decode cX0_difficultyAt 43 = .ok (.invokevirtual 30, 3) := by decide +kernel
theorem dX0_difficultyAt_46 : decode cX0_difficultyAt 46 = .ok (.istore 6, 2) := by decide +kernel
theorem dX0_difficultyAt_48 : decode cX0_difficultyAt 48 = .ok (.iload_n 2, 1) := by decide +kernel
theorem dX0_difficultyAt_49 : decode cX0_difficultyAt 49 = .ok (.aload_n 0, 1) := by decide +kernel
theorem dX0_difficultyAt_50 : decode cX0_difficultyAt 50 = .ok (.iload 4, 2) := by decide +kernel
theorem dX0_difficultyAt_52 : decode cX0_difficultyAt 52 = .ok (.iload 6, 2) := by decide +kernel
theorem dX0_difficultyAt_54 : decode cX0_difficultyAt 54 = .ok (.invokestatic 34, 3) := by decide +kernel
theorem dX0_difficultyAt_57 : decode cX0_difficultyAt 57 = .ok (.iadd, 1) := by decide +kernel
theorem dX0_difficultyAt_58 : decode cX0_difficultyAt 58 = .ok (.istore_n 2, 1) := by decide +kernel
theorem dX0_difficultyAt_59 : decode cX0_difficultyAt 59 = .ok (.iload 6, 2) := by decide +kernel
theorem dX0_difficultyAt_61 : decode cX0_difficultyAt 61 = .ok (.ifCond .ne 18, 3) := by decide +kernel
theorem dX0_difficultyAt_64 : decode cX0_difficultyAt 64 = .ok (.iload_n 3, 1) := by decide +kernel
theorem dX0_difficultyAt_65 : decode cX0_difficultyAt 65 = .ok (.bipush 100, 2) := by decide +kernel
theorem dX0_difficultyAt_67 : decode cX0_difficultyAt 67 = .ok (.if_icmp .eq 12, 3) := by decide +kernel
theorem dX0_difficultyAt_70 : decode cX0_difficultyAt 70 = .ok (.iload_n 3, 1) := by decide +kernel
theorem dX0_difficultyAt_71 : decode cX0_difficultyAt 71 = .ok (.iload 5, 2) := by decide +kernel
theorem dX0_difficultyAt_73 : decode cX0_difficultyAt 73 = .ok (.if_icmp .eq 6, 3) := by decide +kernel
theorem dX0_difficultyAt_76 : decode cX0_difficultyAt 76 = .ok (.iinc 2 1, 3) := by decide +kernel
theorem dX0_difficultyAt_79 : decode cX0_difficultyAt 79 = .ok (.iload 6, 2) := by decide +kernel
theorem dX0_difficultyAt_81 : decode cX0_difficultyAt 81 = .ok (.ifCond .eq 8, 3) := by decide +kernel
theorem dX0_difficultyAt_84 : decode cX0_difficultyAt 84 = .ok (.bipush 100, 2) := by decide +kernel
theorem dX0_difficultyAt_86 : decode cX0_difficultyAt 86 = .ok (.goto 5, 3) := by decide +kernel
theorem dX0_difficultyAt_89 : decode cX0_difficultyAt 89 = .ok (.iload 5, 2) := by decide +kernel
theorem dX0_difficultyAt_91 : decode cX0_difficultyAt 91 = .ok (.istore_n 3, 1) := by decide +kernel
theorem dX0_difficultyAt_92 : decode cX0_difficultyAt 92 = .ok (.iinc 4 1, 3) := by decide +kernel
theorem dX0_difficultyAt_95 : decode cX0_difficultyAt 95 = .ok (.goto (-87), 3) := by decide +kernel
theorem dX0_difficultyAt_98 : decode cX0_difficultyAt 98 = .ok (.iload_n 2, 1) := by decide +kernel
theorem dX0_difficultyAt_99 : decode cX0_difficultyAt 99 = .ok (.ireturn, 1) := by decide +kernel
theorem dX0_easiestFret_0 : decode cX0_easiestFret 0 = .ok (.iconst 0, 1) := by decide +kernel
theorem dX0_easiestFret_1 : decode cX0_easiestFret 1 = .ok (.istore_n 1, 1) := by decide +kernel
theorem dX0_easiestFret_2 : decode cX0_easiestFret 2 = .ok (.aload_n 0, 1) := by decide +kernel
theorem dX0_easiestFret_3 : decode cX0_easiestFret 3 = .ok (.iconst 0, 1) := by decide +kernel
theorem dX0_easiestFret_4 : decode cX0_easiestFret 4 = .ok (.invokestatic 40, 3) := by decide +kernel
theorem dX0_easiestFret_7 : decode cX0_easiestFret 7 = .ok (.istore_n 2, 1) := by decide +kernel
theorem dX0_easiestFret_8 : decode cX0_easiestFret 8 = .ok (.iconst 1, 1) := by decide +kernel
theorem dX0_easiestFret_9 : decode cX0_easiestFret 9 = .ok (.istore_n 3, 1) := by decide +kernel
theorem dX0_easiestFret_10 : decode cX0_easiestFret 10 = .ok (.iload_n 3, 1) := by decide +kernel
theorem dX0_easiestFret_11 : decode cX0_easiestFret 11 = .ok (.bipush 7, 2) := by decide +kernel
theorem dX0_easiestFret_13 : decode cX0_easiestFret 13 = .ok (.if_icmp .gt 27, 3) := by decide +kernel
theorem dX0_easiestFret_16 : decode cX0_easiestFret 16 = .ok (.aload_n 0, 1) := by decide +kernel
theorem dX0_easiestFret_17 : decode cX0_easiestFret 17 = .ok (.iload_n 3, 1) := by decide +kernel
theorem dX0_easiestFret_18 : decode cX0_easiestFret 18 = .ok (.invokestatic 40, 3) := by decide +kernel
theorem dX0_easiestFret_21 : decode cX0_easiestFret 21 = .ok (.istore 4, 2) := by decide +kernel
theorem dX0_easiestFret_23 : decode cX0_easiestFret 23 = .ok (.iload 4, 2) := by decide +kernel
theorem dX0_easiestFret_25 : decode cX0_easiestFret 25 = .ok (.iload_n 2, 1) := by decide +kernel
theorem dX0_easiestFret_26 : decode cX0_easiestFret 26 = .ok (.if_icmp .ge 8, 3) := by decide +kernel
theorem dX0_easiestFret_29 : decode cX0_easiestFret 29 = .ok (.iload_n 3, 1) := by decide +kernel
theorem dX0_easiestFret_30 : decode cX0_easiestFret 30 = .ok (.istore_n 1, 1) := by decide +kernel
theorem dX0_easiestFret_31 : decode cX0_easiestFret 31 = .ok (.iload 4, 2) := by decide +kernel
theorem dX0_easiestFret_33 : decode cX0_easiestFret 33 = .ok (.istore_n 2, 1) := by decide +kernel
theorem dX0_easiestFret_34 : decode cX0_easiestFret 34 = .ok (.iinc 3 1, 3) := by decide +kernel
theorem dX0_easiestFret_37 : decode cX0_easiestFret 37 = .ok (.goto (-27), 3) := by decide +kernel
theorem dX0_easiestFret_40 : decode cX0_easiestFret 40 = .ok (.iload_n 1, 1) := by decide +kernel
theorem dX0_easiestFret_41 : decode cX0_easiestFret 41 = .ok (.ireturn, 1) := by decide +kernel
theorem dX0_shapeDifficulty_0 : decode cX0_shapeDifficulty 0 = .ok (.iload_n 2, 1) := by decide +kernel
theorem dX0_shapeDifficulty_1 : decode cX0_shapeDifficulty 1 = .ok (.ifCond .eq 7, 3) := by decide +kernel
theorem dX0_shapeDifficulty_4 : decode cX0_shapeDifficulty 4 = .ok (.iconst 1, 1) := by decide +kernel
theorem dX0_shapeDifficulty_5 : decode cX0_shapeDifficulty 5 = .ok (.goto 4, 3) := by decide +kernel
theorem dX0_shapeDifficulty_8 : decode cX0_shapeDifficulty 8 = .ok (.iconst 4, 1) := by decide +kernel
theorem dX0_shapeDifficulty_9 : decode cX0_shapeDifficulty 9 = .ok (.istore_n 3, 1) := by decide +kernel
theorem dX0_shapeDifficulty_10 : decode cX0_shapeDifficulty 10 = .ok (.aload_n 0, 1) := by decide +kernel
theorem dX0_shapeDifficulty_11 : decode cX0_shapeDifficulty 11 = .ok (.iload_n 1, 1) := by decide +kernel
theorem dX0_shapeDifficulty_12 : decode cX0_shapeDifficulty 12 = .ok (.iconst 3, 1) := by decide +kernel
theorem dX0_shapeDifficulty_13 : decode cX0_shapeDifficulty 13 = .ok (.invokevirtual 15, 3) := by decide +kernel
theorem dX0_shapeDifficulty_16 : decode cX0_shapeDifficulty 16 = .ok (.iconst 3, 1) := by decide +kernel
theorem dX0_shapeDifficulty_17 : decode cX0_shapeDifficulty 17 = .ok (.if_icmp .le 6, 3) := by decide +kernel
theorem dX0_shapeDifficulty_20 : decode cX0_shapeDifficulty 20 = .ok (.iinc 3 1, 3) := by decide +kernel
theorem dX0_shapeDifficulty_23 : decode cX0_shapeDifficulty 23 = .ok (.aload_n 0, 1) := by decide +kernel
theorem dX0_shapeDifficulty_24 : decode cX0_shapeDifficulty 24 = .ok (.iload_n 1, 1) := by decide +kernel
theorem dX0_shapeDifficulty_25 : decode cX0_shapeDifficulty 25 = .ok (.iconst 4, 1) := by decide +kernel
theorem dX0_shapeDifficulty_26 : decode cX0_shapeDifficulty 26 = .ok (.invokevirtual 15, 3) := by decide +kernel
theorem dX0_shapeDifficulty_29 : decode cX0_shapeDifficulty 29 = .ok (.istore 4, 2) := by decide +kernel
theorem dX0_shapeDifficulty_31 : decode cX0_shapeDifficulty 31 = .ok (.aload_n 0, 1) := by decide +kernel
theorem dX0_shapeDifficulty_32 : decode cX0_shapeDifficulty 32 = .ok (.iload_n 1, 1) := by decide +kernel
theorem dX0_shapeDifficulty_33 : decode cX0_shapeDifficulty 33 = .ok (.iconst 2, 1) := by decide +kernel
theorem dX0_shapeDifficulty_34 : decode cX0_shapeDifficulty 34 = .ok (.invokevirtual 15, 3) := by decide +kernel
theorem dX0_shapeDifficulty_37 : decode cX0_shapeDifficulty 37 = .ok (.istore 5, 2) := by decide +kernel
theorem dX0_shapeDifficulty_39 : decode cX0_shapeDifficulty 39 = .ok (.iload 4, 2) := by decide +kernel
theorem dX0_shapeDifficulty_41 : decode cX0_shapeDifficulty 41 = .ok (.bipush 100, 2) := by decide +kernel
theorem dX0_shapeDifficulty_43 : decode cX0_shapeDifficulty 43 = .ok (.if_icmp .eq 19, 3) := by decide +kernel
theorem dX0_shapeDifficulty_46 : decode cX0_shapeDifficulty 46 = .ok (.iload 4, 2) := by decide +kernel
theorem dX0_shapeDifficulty_48 : decode cX0_shapeDifficulty 48 = .ok (.invokestatic 44, 3) := by decide +kernel
theorem dX0_shapeDifficulty_51 : decode cX0_shapeDifficulty 51 = .ok (.iload 5, 2) := by decide +kernel
theorem dX0_shapeDifficulty_53 : decode cX0_shapeDifficulty 53 = .ok (.invokestatic 44, 3) := by decide +kernel
theorem dX0_shapeDifficulty_56 : decode cX0_shapeDifficulty 56 = .ok (.if_icmp .eq 6, 3) := by decide +kernel
theorem dX0_shapeDifficulty_59 : decode cX0_shapeDifficulty 59 = .ok (.iinc 3 1, 3) := by decide +kernel
theorem dX0_shapeDifficulty_62 : decode cX0_shapeDifficulty 62 = .ok (.iload_n 3, 1) := by decide +kernel
theorem dX0_shapeDifficulty_63 : decode cX0_shapeDifficulty 63 = .ok (.ireturn, 1) := by decide +kernel
theorem dX1_init_0 : decode cX1_init 0 = .ok (.aload_n 0, 1) := by decide +kernel
theorem dX1_init_1 : decode cX1_init 1 = .ok (.invokespecial 3, 3) := by decide +kernel
theorem dX1_init_4 : decode cX1_init 4 = .ok (.aload_n 0, 1) := by decide +kernel
theorem dX1_init_5 : decode cX1_init 5 = .ok (.bipush 8, 2) := by decide +kernel
theorem dX1_init_7 : decode cX1_init 7 = .ok (.anewarray 9, 3) := by decide +kernel
theorem dX1_init_10 : decode cX1_init 10 = .ok (.putfield 11, 3) := by decide +kernel
theorem dX1_init_13 : decode cX1_init 13 = .ok (.iconst 0, 1) := by decide +kernel
theorem dX1_init_14 : decode cX1_init 14 = .ok (.istore_n 1, 1) := by decide +kernel
theorem dX1_init_15 : decode cX1_init 15 = .ok (.iload_n 1, 1) := by decide +kernel
theorem dX1_init_16 : decode cX1_init 16 = .ok (.aload_n 0, 1) := by decide +kernel
theorem dX1_init_17 : decode cX1_init 17 = .ok (.getfield 11, 3) := by decide +kernel
theorem dX1_init_20 : decode cX1_init 20 = .ok (.arraylength, 1) := by decide +kernel
theorem dX1_init_21 : decode cX1_init 21 = .ok (.if_icmp .ge 22, 3) := by decide +kernel
theorem dX1_init_24 : decode cX1_init 24 = .ok (.aload_n 0, 1) := by decide +kernel
theorem dX1_init_25 : decode cX1_init 25 = .ok (.getfield 11, 3) := by decide +kernel
theorem dX1_init_28 : decode cX1_init 28 = .ok (.iload_n 1, 1) := by decide +kernel
theorem dX1_init_29 : decode cX1_init 29 = .ok (.new 9, 3) := by decide +kernel
theorem dX1_init_32 : decode cX1_init 32 = .ok (.dup, 1) := by decide +kernel
theorem dX1_init_33 : decode cX1_init 33 = .ok (.invokespecial 17, 3) := by decide +kernel
theorem dX1_init_36 : decode cX1_init 36 = .ok (.aastore, 1) := by decide +kernel
theorem dX1_init_37 : decode cX1_init 37 = .ok (.iinc 1 1, 3) := by decide +kernel
theorem dX1_init_40 : decode cX1_init 40 = .ok (.goto (-25), 3) := by decide +kernel
theorem dX1_init_43 : decode cX1_init 43 = .ok (.return_, 1) := by decide +kernel
theorem dX1_isEmpty_0 : decode cX1_isEmpty 0 = .ok (.aload_n 0, 1) := by decide +kernel
theorem dX1_isEmpty_1 : decode cX1_isEmpty 1 = .ok (.getfield 18, 3) := by decide +kernel
theorem dX1_isEmpty_4 : decode cX1_isEmpty 4 = .ok (.ifCond .ne 7, 3) := by decide +kernel
theorem dX1_isEmpty_7 : decode cX1_isEmpty 7 = .ok (.iconst 1, 1) := by decide +kernel
theorem dX1_isEmpty_8 : decode cX1_isEmpty 8 = .ok (.goto 4, 3) := by decide +kernel
theorem dX1_isEmpty_11 : decode cX1_isEmpty 11 = .ok (.iconst 0, 1) := by decide +kernel
theorem dX1_isEmpty_12 : decode cX1_isEmpty 12 = .ok (.ireturn, 1) := by decide +kernel
theorem dX1_keep_0 : decode cX1_keep 0 = .ok (.aload_n 0, 1) := by decide +kernel
theorem dX1_keep_1 : decode cX1_keep 1 = .ok (.aload_n 0, 1) := by decide +kernel
theorem dX1_keep_2 : decode cX1_keep 2 = .ok (.getfield 18, 3) := by decide +kernel
theorem dX1_keep_5 : decode cX1_keep 5 = .ok (.invokevirtual 22, 3) := by decide +kernel
theorem dX1_keep_8 : decode cX1_keep 8 = .ok (.astore_n 2, 1) := by decide +kernel
theorem dX1_keep_9 : decode cX1_keep 9 = .ok (.aload_n 2, 1) := by decide +kernel
theorem dX1_keep_10 : decode cX1_keep 10 = .ok (.ifnull 8, 3) := by decide +kernel
theorem dX1_keep_13 : decode cX1_keep 13 = .ok (.aload_n 2, 1) := by decide +kernel
theorem dX1_keep_14 : decode cX1_keep 14 = .ok (.aload_n 1, 1) := by decide +kernel
theorem dX1_keep_15 : decode cX1_keep 15 = .ok (.invokevirtual 26, 3) := by decide +kernel
theorem dX1_keep_18 : decode cX1_keep 18 = .ok (.aload_n 0, 1) := by decide +kernel
theorem dX1_keep_19 : decode cX1_keep 19 = .ok (.getfield 18, 3) := by decide +kernel
theorem dX1_keep_22 : decode cX1_keep 22 = .ok (.bipush 8, 2) := by decide +kernel
theorem dX1_keep_24 : decode cX1_keep 24 = .ok (.if_icmp .ge 16, 3) := by decide +kernel
theorem dX1_keep_27 : decode cX1_keep 27 = .ok (.aload_n 0, 1) := by decide +kernel
theorem dX1_keep_28 : decode cX1_keep 28 = .ok (.dup, 1) := by decide +kernel
theorem dX1_keep_29 : decode cX1_keep 29 = .ok (.getfield 18, 3) := by decide +kernel
theorem dX1_keep_32 : decode cX1_keep 32 = .ok (.iconst 1, 1) := by decide +kernel
theorem dX1_keep_33 : decode cX1_keep 33 = .ok (.iadd, 1) := by decide +kernel
theorem dX1_keep_34 : decode cX1_keep 34 = .ok (.putfield 18, 3) := by decide +kernel
theorem dX1_keep_37 : decode cX1_keep 37 = .ok (.goto 18, 3) := by decide +kernel
theorem dX1_keep_40 : decode cX1_keep 40 = .ok (.aload_n 0, 1) := by decide +kernel
theorem dX1_keep_41 : decode cX1_keep 41 = .ok (.aload_n 0, 1) := by decide +kernel
theorem dX1_keep_42 : decode cX1_keep 42 = .ok (.getfield 30, 3) := by decide +kernel
theorem dX1_keep_45 : decode cX1_keep 45 = .ok (.iconst 1, 1) := by decide +kernel
theorem dX1_keep_46 : decode cX1_keep 46 = .ok (.iadd, 1) := by decide +kernel
theorem dX1_keep_47 : decode cX1_keep 47 = .ok (.bipush 8, 2) := by decide +kernel
theorem dX1_keep_49 : decode cX1_keep 49 = .ok (.invokestatic 33, 3) := by decide +kernel
theorem dX1_keep_52 : decode cX1_keep 52 = .ok (.putfield 30, 3) := by decide +kernel
theorem dX1_keep_55 : decode cX1_keep 55 = .ok (.return_, 1) := by decide +kernel
theorem dX1_restore_0 : decode cX1_restore 0 = .ok (.aload_n 0, 1) := by decide +kernel
theorem dX1_restore_1 : decode cX1_restore 1 = .ok (.aload_n 0, 1) := by decide +kernel
theorem dX1_restore_2 : decode cX1_restore 2 = .ok (.getfield 18, 3) := by decide +kernel
theorem dX1_restore_5 : decode cX1_restore 5 = .ok (.iconst 1, 1) := by decide +kernel
theorem dX1_restore_6 : decode cX1_restore 6 = .ok (.isub, 1) := by decide +kernel
theorem dX1_restore_7 : decode cX1_restore 7 = .ok (.invokevirtual 22, 3) := by decide +kernel
theorem dX1_restore_10 : decode cX1_restore 10 = .ok (.astore_n 2, 1) := by decide +kernel
theorem dX1_restore_11 : decode cX1_restore 11 = .ok (.aload_n 0, 1) := by decide +kernel
theorem dX1_restore_12 : decode cX1_restore 12 = .ok (.getfield 18, 3) := by decide +kernel
theorem dX1_restore_15 : decode cX1_restore 15 = .ok (.ifCond .le 22, 3) := by decide +kernel
theorem dX1_restore_18 : decode cX1_restore 18 = .ok (.aload_n 2, 1) := by decide +kernel
theorem dX1_restore_19 : decode cX1_restore 19 = .ok (.ifnull 18, 3) := by decide +kernel
theorem dX1_restore_22 : decode cX1_restore 22 = .ok (.aload_n 1, 1) := by decide +kernel
theorem dX1_restore_23 : decode cX1_restore 23 = .ok (.aload_n 2, 1) := by decide +kernel
theorem dX1_restore_24 : decode cX1_restore 24 = .ok (.invokevirtual 26, 3) := by decide +kernel
theorem dX1_restore_27 : decode cX1_restore 27 = .ok (.aload_n 0, 1) := by decide +kernel
theorem dX1_restore_28 : decode cX1_restore 28 = .ok (.dup, 1) := by decide +kernel
theorem dX1_restore_29 : decode cX1_restore 29 = .ok (.getfield 18, 3) := by decide +kernel
theorem dX1_restore_32 : decode cX1_restore 32 = .ok (.iconst 1, 1) := by decide +kernel
theorem dX1_restore_33 : decode cX1_restore 33 = .ok (.isub, 1) := by decide +kernel
theorem dX1_restore_34 : decode cX1_restore 34 = .ok (.putfield 18, 3) := by decide +kernel
theorem dX1_restore_37 : decode cX1_restore 37 = .ok (.aload_n 0, 1) := by decide +kernel
theorem dX1_restore_38 : decode cX1_restore 38 = .ok (.getfield 18, 3) := by decide +kernel
theorem dX1_restore_41 : decode cX1_restore 41 = .ok (.ireturn, 1) := by decide +kernel
theorem dX1_stateAt_0 : decode cX1_stateAt 0 = .ok (.aload_n 0, 1) := by decide +kernel
theorem dX1_stateAt_1 : decode cX1_stateAt 1 = .ok (.getfield 30, 3) := by decide +kernel
theorem dX1_stateAt_4 : decode cX1_stateAt 4 = .ok (.iload_n 1, 1) := by decide +kernel
theorem dX1_stateAt_5 : decode cX1_stateAt 5 = .ok (.iadd, 1) := by decide +kernel
theorem dX1_stateAt_6 : decode cX1_stateAt 6 = .ok (.bipush 8, 2) := by decide +kernel
theorem dX1_stateAt_8 : decode cX1_stateAt 8 = .ok (.invokestatic 33, 3) := by decide +kernel
theorem dX1_stateAt_11 : decode cX1_stateAt 11 = .ok (.istore_n 2, 1) := by decide +kernel
theorem dX1_stateAt_12 : decode cX1_stateAt 12 = .ok (.iload_n 2, 1) := by decide +kernel
theorem dX1_stateAt_13 : decode cX1_stateAt 13 = .ok (.aload_n 0, 1) := by decide +kernel
theorem dX1_stateAt_14 : decode cX1_stateAt 14 = .ok (.getfield 11, 3) := by decide +kernel
theorem dX1_stateAt_17 : decode cX1_stateAt 17 = .ok (.arraylength, 1) := by decide +kernel
theorem dX1_stateAt_18 : decode cX1_stateAt 18 = .ok (.if_icmp .ge 12, 3) := by decide +kernel
theorem dX1_stateAt_21 : decode cX1_stateAt 21 = .ok (.aload_n 0, 1) := by decide +kernel
theorem dX1_stateAt_22 : decode cX1_stateAt 22 = .ok (.getfield 11, 3) := by decide +kernel
theorem dX1_stateAt_25 : decode cX1_stateAt 25 = .ok (.iload_n 2, 1) := by decide +kernel
theorem dX1_stateAt_26 : decode cX1_stateAt 26 = .ok (.aaload, 1) := by decide +kernel
theorem dX1_stateAt_27 : decode cX1_stateAt 27 = .ok (.goto 4, 3) := by decide +kernel
theorem dX1_stateAt_30 : decode cX1_stateAt 30 = .ok (.aconst_null, 1) := by decide +kernel
theorem dX1_stateAt_31 : decode cX1_stateAt 31 = .ok (.areturn, 1) := by decide +kernel
theorem dX2_signatureOf_0 : decode cX2_signatureOf 0 = .ok (.iload_n 1, 1) := by decide +kernel
theorem dX2_signatureOf_1 : decode cX2_signatureOf 1 = .ok (.ifCond .eq 9, 3) := by decide +kernel
theorem dX2_signatureOf_4 : decode cX2_signatureOf 4 = .ok (.iload_n 0, 1) := by decide +kernel
theorem dX2_signatureOf_5 : decode cX2_signatureOf 5 = .ok (.iconst 3, 1) := by decide +kernel
theorem dX2_signatureOf_6 : decode cX2_signatureOf 6 = .ok (.isub, 1) := by decide +kernel
theorem dX2_signatureOf_7 : decode cX2_signatureOf 7 = .ok (.goto 4, 3) := by decide +kernel
theorem dX2_signatureOf_10 : decode cX2_signatureOf 10 = .ok (.iload_n 0, 1) := by decide +kernel
theorem dX2_signatureOf_11 : decode cX2_signatureOf 11 = .ok (.ireturn, 1) := by decide +kernel
theorem dX2_tonicOf_0 : decode cX2_tonicOf 0 = .ok (.iload_n 1, 1) := by decide +kernel
theorem dX2_tonicOf_1 : decode cX2_tonicOf 1 = .ok (.ifCond .eq 9, 3) := by decide +kernel
theorem dX2_tonicOf_4 : decode cX2_tonicOf 4 = .ok (.iload_n 0, 1) := by decide +kernel
theorem dX2_tonicOf_5 : decode cX2_tonicOf 5 = .ok (.iconst 3, 1) := by decide +kernel
theorem dX2_tonicOf_6 : decode cX2_tonicOf 6 = .ok (.iadd, 1) := by decide +kernel
theorem dX2_tonicOf_7 : decode cX2_tonicOf 7 = .ok (.goto 4, 3) := by decide +kernel
theorem dX2_tonicOf_10 : decode cX2_tonicOf 10 = .ok (.iload_n 0, 1) := by decide +kernel
theorem dX2_tonicOf_11 : decode cX2_tonicOf 11 = .ok (.ireturn, 1) := by decide +kernel
theorem dX2_simplestSignature_0 : decode cX2_simplestSignature 0 = .ok (.bipush (-5), 2) := by decide +kernel
theorem dX2_simplestSignature_2 : decode cX2_simplestSignature 2 = .ok (.iload_n 1, 1) := by decide +kernel
theorem dX2_simplestSignature_3 : decode cX2_simplestSignature 3 = .ok (.invokestatic 11, 3) := by decide +kernel
theorem dX2_simplestSignature_6 : decode cX2_simplestSignature 6 = .ok (.istore_n 3, 1) := by decide +kernel
theorem dX2_simplestSignature_7 : decode cX2_simplestSignature 7 = .ok (.iload_n 3, 1) := by decide +kernel
theorem dX2_simplestSignature_8 : decode cX2_simplestSignature 8 = .ok (.iload_n 0, 1) := by decide +kernel
theorem dX2_simplestSignature_9 : decode cX2_simplestSignature 9 = .ok (.invokestatic 15, 3) := by decide +kernel
theorem dX2_simplestSignature_12 : decode cX2_simplestSignature 12 = .ok (.iload_n 1, 1) := by decide +kernel
theorem dX2_simplestSignature_13 : decode cX2_simplestSignature 13 = .ok (.invokestatic 21, 3) := by decide +kernel
theorem dX2_simplestSignature_16 : decode cX2_simplestSignature 16 = .ok (.istore 4, 2) := by decide +kernel
theorem dX2_simplestSignature_18 : decode cX2_simplestSignature 18 = .ok (.iload_n 2, 1) := by decide +kernel
theorem dX2_simplestSignature_19 : decode cX2_simplestSignature 19 = .ok (.ifCond .eq 15, 3) := by decide +kernel
theorem dX2_simplestSignature_22 : decode cX2_simplestSignature 22 = .ok (.iload 4, 2) := by decide +kernel
theorem dX2_simplestSignature_24 : decode cX2_simplestSignature 24 = .ok (.bipush 6, 2) := by decide +kernel
theorem dX2_simplestSignature_26 : decode cX2_simplestSignature 26 = .ok (.if_icmp .ne 8, 3) := by decide +kernel
theorem dX2_simplestSignature_29 : decode cX2_simplestSignature 29 = .ok (.bipush (-6), 2) := by decide +kernel
theorem dX2_simplestSignature_31 : decode cX2_simplestSignature 31 = .ok (.goto 5, 3) := by decide +kernel
theorem dX2_simplestSignature_34 : decode cX2_simplestSignature 34 = .ok (.iload 4, 2) := by decide +kernel
theorem dX2_simplestSignature_36 : decode cX2_simplestSignature 36 = .ok (.ireturn, 1) := by decide +kernel
theorem dX2_degreeOf_0 : decode cX2_degreeOf 0 = .ok (.iload_n 0, 1) := by decide +kernel
theorem dX2_degreeOf_1 : decode cX2_degreeOf 1 = .ok (.iload_n 1, 1) := by decide +kernel
theorem dX2_degreeOf_2 : decode cX2_degreeOf 2 = .ok (.invokestatic 24, 3) := by decide +kernel
theorem dX2_degreeOf_5 : decode cX2_degreeOf 5 = .ok (.ifCond .ne 5, 3) := by decide +kernel
theorem dX2_degreeOf_8 : decode cX2_degreeOf 8 = .ok (.iconst 0, 1) := by decide +kernel
theorem dX2_degreeOf_9 : decode cX2_degreeOf 9 = .ok (.ireturn, 1) := by decide +kernel
theorem dX2_degreeOf_10 : decode cX2_degreeOf 10 = .ok (.iload_n 1, 1) := by decide +kernel
theorem dX2_degreeOf_11 : decode cX2_degreeOf 11 = .ok (.iload_n 2, 1) := by decide +kernel
theorem dX2_degreeOf_12 : decode cX2_degreeOf 12 = .ok (.invokestatic 11, 3) := by decide +kernel
theorem dX2_degreeOf_15 : decode cX2_degreeOf 15 = .ok (.istore_n 3, 1) := by decide +kernel
theorem dX2_degreeOf_16 : decode cX2_degreeOf 16 = .ok (.iload_n 0, 1) := by decide +kernel
theorem dX2_degreeOf_17 : decode cX2_degreeOf 17 = .ok (.iload_n 3, 1) := by decide +kernel
theorem dX2_degreeOf_18 : decode cX2_degreeOf 18 = .ok (.invokestatic 28, 3) := by decide +kernel
theorem dX2_degreeOf_21 : decode cX2_degreeOf 21 = .ok (.isub, 1) := by decide +kernel
theorem dX2_degreeOf_22 : decode cX2_degreeOf 22 = .ok (.bipush 12, 2) := by decide +kernel
theorem dX2_degreeOf_24 : decode cX2_degreeOf 24 = .ok (.invokestatic 32, 3) := by decide +kernel
theorem dX2_degreeOf_27 : decode cX2_degreeOf 27 = .ok (.istore 4, 2) := by decide +kernel
theorem dX2_degreeOf_29 : decode cX2_degreeOf 29 = .ok (.iconst 0, 1) := by decide +kernel
theorem dX2_degreeOf_30 : decode cX2_degreeOf 30 = .ok (.istore 5, 2) := by decide +kernel
theorem dX2_degreeOf_32 : decode cX2_degreeOf 32 = .ok (.iconst 0, 1) := by decide +kernel
theorem dX2_degreeOf_33 : decode cX2_degreeOf 33 = .ok (.istore 6, 2) := by decide +kernel
theorem dX2_degreeOf_35 : decode cX2_degreeOf 35 = .ok (.iload 6, 2) := by decide +kernel
theorem dX2_degreeOf_37 : decode cX2_degreeOf 37 = .ok (.iload 4, 2) := by decide +kernel
theorem dX2_degreeOf_39 : decode cX2_degreeOf 39 = .ok (.if_icmp .gt 25, 3) := by decide +kernel
theorem dX2_degreeOf_42 : decode cX2_degreeOf 42 = .ok (.iload_n 3, 1) := by decide +kernel
theorem dX2_degreeOf_43 : decode cX2_degreeOf 43 = .ok (.iload 6, 2) := by decide +kernel
theorem dX2_degreeOf_45 : decode cX2_degreeOf 45 = .ok (.invokestatic 37, 3) := by decide +kernel
theorem dX2_degreeOf_48 : decode cX2_degreeOf 48 = .ok (.iload_n 1, 1) := by decide +kernel
theorem dX2_degreeOf_49 : decode cX2_degreeOf 49 = .ok (.invokestatic 24, 3) := by decide +kernel
theorem dX2_degreeOf_52 : decode cX2_degreeOf 52 = .ok (.ifCond .eq 6, 3) := by decide +kernel
theorem dX2_degreeOf_55 : decode cX2_degreeOf 55 = .ok (.iinc 5 1, 3) := by decide +kernel
theorem dX2_degreeOf_58 : decode cX2_degreeOf 58 = .ok (.iinc 6 1, 3) := by decide +kernel
theorem dX2_degreeOf_61 : decode cX2_degreeOf 61 = .ok (.goto (-26), 3) := by decide +kernel
theorem dX2_degreeOf_64 : decode cX2_degreeOf 64 = .ok (.iload 5, 2) := by decide +kernel
theorem dX2_degreeOf_66 : decode cX2_degreeOf 66 = .ok (.ireturn, 1) := by decide +kernel
theorem dX2_scoreOf_0 : decode cX2_scoreOf 0 = .ok (.iload_n 1, 1) := by decide +kernel
theorem dX2_scoreOf_1 : decode cX2_scoreOf 1 = .ok (.iload_n 2, 1) := by decide +kernel
theorem dX2_scoreOf_2 : decode cX2_scoreOf 2 = .ok (.invokestatic 11, 3) := by decide +kernel
theorem dX2_scoreOf_5 : decode cX2_scoreOf 5 = .ok (.invokestatic 28, 3) := by decide +kernel
theorem dX2_scoreOf_8 : decode cX2_scoreOf 8 = .ok (.istore_n 3, 1) := by decide +kernel
theorem dX2_scoreOf_9 : decode cX2_scoreOf 9 = .ok (.aload_n 0, 1) := by decide +kernel
theorem dX2_scoreOf_10 : decode cX2_scoreOf 10 = .ok (.invokevirtual 40, 3) := by decide +kernel
theorem dX2_scoreOf_13 : decode cX2_scoreOf 13 = .ok (.iconst 1, 1) := by decide +kernel
theorem dX2_scoreOf_14 : decode cX2_scoreOf 14 = .ok (.isub, 1) := by decide +kernel
theorem dX2_scoreOf_15 : decode cX2_scoreOf 15 = .ok (.istore 4, 2) := by decide +kernel
theorem dX2_scoreOf_17 : decode cX2_scoreOf 17 = .ok (.iconst 0, 1) := by decide +kernel
theorem dX2_scoreOf_18 : decode cX2_scoreOf 18 = .ok (.istore 5, 2) := by decide +kernel
theorem dX2_scoreOf_20 : decode cX2_scoreOf 20 = .ok (.iconst 0, 1) := by decide +kernel
theorem dX2_scoreOf_21 : decode cX2_scoreOf 21 = .ok (.istore 6, 2) := by decide +kernel
theorem dX2_scoreOf_23 : decode cX2_scoreOf 23 = .ok (.iload 6, 2) := by decide +kernel
theorem dX2_scoreOf_25 : decode cX2_scoreOf 25 = .ok (.iload 4, 2) := by decide +kernel
theorem dX2_scoreOf_27 : decode cX2_scoreOf 27 = .ok (.if_icmp .gt 93, 3) := by decide +kernel
theorem dX2_scoreOf_30 : decode cX2_scoreOf 30 = .ok (.aload_n 0, 1) := by decide +kernel
theorem dX2_scoreOf_31 : decode cX2_scoreOf 31 = .ok (.iload 6, 2) := by decide +kernel
theorem dX2_scoreOf_33 : decode cX2_scoreOf 33 = .ok (.iconst 2, 1) := by decide +kernel
theorem dX2_scoreOf_34 : decode cX2_scoreOf 34 = .ok (.invokevirtual 46, 3) := by decide +kernel
theorem dX2_scoreOf_37 : decode cX2_scoreOf 37 = .ok (.invokestatic 28, 3) := by decide +kernel
theorem dX2_scoreOf_40 : decode cX2_scoreOf 40 = .ok (.istore 7, 2) := by decide +kernel
theorem dX2_scoreOf_42 : decode cX2_scoreOf 42 = .ok (.iload 7, 2) := by decide +kernel
theorem dX2_scoreOf_44 : decode cX2_scoreOf 44 = .ok (.iload_n 1, 1) := by decide +kernel
theorem dX2_scoreOf_45 : decode cX2_scoreOf 45 = .ok (.invokestatic 24, 3) := by decide +kernel
theorem dX2_scoreOf_48 : decode cX2_scoreOf 48 = .ok (.ifCond .eq 6, 3) := by decide +kernel
theorem dX2_scoreOf_51 : decode cX2_scoreOf 51 = .ok (.iinc 5 2, 3) := by decide +kernel
theorem dX2_scoreOf_54 : decode cX2_scoreOf 54 = .ok (.iload 7, 2) := by decide +kernel
theorem dX2_scoreOf_56 : decode cX2_scoreOf 56 = .ok (.iload_n 3, 1) := by decide +kernel
theorem dX2_scoreOf_57 : decode cX2_scoreOf 57 = .ok (.if_icmp .ne 57, 3) := by decide +kernel
theorem dX2_scoreOf_60 : decode cX2_scoreOf 60 = .ok (.aload_n 0, 1) := by decide +kernel
theorem dX2_scoreOf_61 : decode cX2_scoreOf 61 = .ok (.iload 6, 2) := by decide +kernel
theorem dX2_scoreOf_63 : decode cX2_scoreOf 63 = .ok (.iconst 3, 1) := by decide +kernel
theorem dX2_scoreOf_64 : decode cX2_scoreOf 64 = .ok (.invokevirtual 46, 3) := by decide +kernel
theorem dX2_scoreOf_67 : decode cX2_scoreOf 67 = .ok (.invokestatic 49, 3) := by decide +kernel
theorem dX2_scoreOf_70 : decode cX2_scoreOf 70 = .ok (.getfield 55, 3) := by decide +kernel
theorem dX2_scoreOf_73 : decode cX2_scoreOf 73 = .ok (.iload_n 2, 1) := by decide +kernel
theorem dX2_scoreOf_74 : decode cX2_scoreOf 74 = .ok (.if_icmp .ne 7, 3) := by decide +kernel
theorem dX2_scoreOf_77 : decode cX2_scoreOf 77 = .ok (.iconst 1, 1) := by decide +kernel
theorem dX2_scoreOf_78 : decode cX2_scoreOf 78 = .ok (.goto 4, 3) := by decide +kernel
theorem dX2_scoreOf_81 : decode cX2_scoreOf 81 = .ok (.iconst 0, 1) := by decide +kernel
theorem dX2_scoreOf_82 : decode cX2_scoreOf 82 = .ok (.istore 8, 2) := by decide +kernel
theorem dX2_scoreOf_84 : decode cX2_scoreOf 84 = .ok (.iload 5, 2) := by decide +kernel
theorem dX2_scoreOf_86 : decode cX2_scoreOf 86 = .ok (.iconst 1, 1) := by decide +kernel
theorem dX2_scoreOf_87 : decode cX2_scoreOf 87 = .ok (.iload 8, 2) := by decide +kernel
theorem dX2_scoreOf_89 : decode cX2_scoreOf 89 = .ok (.ifCond .eq 7, 3) := by decide +kernel
theorem dX2_scoreOf_92 : decode cX2_scoreOf 92 = .ok (.iconst 1, 1) := by decide +kernel
theorem dX2_scoreOf_93 : decode cX2_scoreOf 93 = .ok (.goto 4, 3) := by decide +kernel
theorem dX2_scoreOf_96 : decode cX2_scoreOf 96 = .ok (.iconst 0, 1) := by decide +kernel
theorem dX2_scoreOf_97 : decode cX2_scoreOf 97 = .ok (.iadd, 1) := by decide +kernel
theorem dX2_scoreOf_98 : decode cX2_scoreOf 98 = .ok (.iload 6, 2) := by decide +kernel
theorem dX2_scoreOf_100 : decode cX2_scoreOf 100 = .ok (.iload 4, 2) := by decide +kernel
theorem dX2_scoreOf_102 : decode cX2_scoreOf 102 = .ok (.if_icmp .ne 7, 3) := by decide +kernel
theorem dX2_scoreOf_105 : decode cX2_scoreOf 105 = .ok (.iconst 2, 1) := by decide +kernel
theorem dX2_scoreOf_106 : decode cX2_scoreOf 106 = .ok (.goto 4, 3) := by decide +kernel
theorem dX2_scoreOf_109 : decode cX2_scoreOf 109 = .ok (.iconst 0, 1) := by decide +kernel
theorem dX2_scoreOf_110 : decode cX2_scoreOf 110 = .ok (.iadd, 1) := by decide +kernel
theorem dX2_scoreOf_111 : decode cX2_scoreOf 111 = .ok (.iadd, 1) := by decide +kernel
theorem dX2_scoreOf_112 : decode cX2_scoreOf 112 = .ok (.istore 5, 2) := by decide +kernel
theorem dX2_scoreOf_114 : decode cX2_scoreOf 114 = .ok (.iinc 6 1, 3) := by decide +kernel
theorem dX2_scoreOf_117 : decode cX2_scoreOf 117 = .ok (.goto (-94), 3) := by decide +kernel
theorem dX2_scoreOf_120 : decode cX2_scoreOf 120 = .ok (.iload 5, 2) := by decide +kernel
theorem dX2_scoreOf_122 : decode cX2_scoreOf 122 = .ok (.ireturn, 1) := by decide +kernel
theorem dX2_best_0 : decode cX2_best 0 = .ok (.aload_n 0, 1) := by decide +kernel
theorem dX2_best_1 : decode cX2_best 1 = .ok (.iconst 0, 1) := by decide +kernel
theorem dX2_best_2 : decode cX2_best 2 = .ok (.invokestatic 59, 3) := by decide +kernel
theorem dX2_best_5 : decode cX2_best 5 = .ok (.istore_n 1, 1) := by decide +kernel
theorem dX2_best_6 : decode cX2_best 6 = .ok (.aload_n 0, 1) := by decide +kernel
theorem dX2_best_7 : decode cX2_best 7 = .ok (.iconst 1, 1) := by decide +kernel
theorem dX2_best_8 : decode cX2_best 8 = .ok (.invokestatic 59, 3) := by decide +kernel
theorem dX2_best_11 : decode cX2_best 11 = .ok (.istore_n 2, 1) := by decide +kernel
theorem dX2_best_12 : decode cX2_best 12 = .ok (.aload_n 0, 1) := by decide +kernel
theorem dX2_best_13 : decode cX2_best 13 = .ok (.iload_n 2, 1) := by decide +kernel
theorem dX2_best_14 : decode cX2_best 14 = .ok (.iconst 1, 1) := by decide +kernel
theorem dX2_best_15 : decode cX2_best 15 = .ok (.invokestatic 63, 3) := by decide +kernel
theorem dX2_best_18 : decode cX2_best 18 = .ok (.aload_n 0, 1) := by decide +kernel
theorem dX2_best_19 : decode cX2_best 19 = .ok (.iload_n 1, 1) := by decide +kernel
theorem dX2_best_20 : decode cX2_best 20 = .ok (.iconst 0, 1) := by decide +kernel
theorem dX2_best_21 : decode cX2_best 21 = .ok (.invokestatic 63, 3) := by decide +kernel
theorem dX2_best_24 : decode cX2_best 24 = .ok (.if_icmp .le 12, 3) := by decide +kernel
theorem dX2_best_27 : decode cX2_best 27 = .ok (.bipush 100, 2) := by decide +kernel
theorem dX2_best_29 : decode cX2_best 29 = .ok (.iload_n 2, 1) := by decide +kernel
theorem dX2_best_30 : decode cX2_best 30 = .ok (.iconst 1, 1) := by decide +kernel
theorem dX2_best_31 : decode cX2_best 31 = .ok (.invokestatic 11, 3) := by decide +kernel
theorem dX2_best_34 : decode cX2_best 34 = .ok (.iadd, 1) := by decide +kernel
theorem dX2_best_35 : decode cX2_best 35 = .ok (.ireturn, 1) := by decide +kernel
theorem dX2_best_36 : decode cX2_best 36 = .ok (.iload_n 1, 1) := by decide +kernel
theorem dX2_best_37 : decode cX2_best 37 = .ok (.iconst 0, 1) := by decide +kernel
theorem dX2_best_38 : decode cX2_best 38 = .ok (.invokestatic 11, 3) := by decide +kernel
theorem dX2_best_41 : decode cX2_best 41 = .ok (.ireturn, 1) := by decide +kernel
theorem dX2_bestSignature_0 : decode cX2_bestSignature 0 = .ok (.iconst 0, 1) := by decide +kernel
theorem dX2_bestSignature_1 : decode cX2_bestSignature 1 = .ok (.istore_n 2, 1) := by decide +kernel
theorem dX2_bestSignature_2 : decode cX2_bestSignature 2 = .ok (.aload_n 0, 1) := by decide +kernel
theorem dX2_bestSignature_3 : decode cX2_bestSignature 3 = .ok (.iconst 0, 1) := by decide +kernel
theorem dX2_bestSignature_4 : decode cX2_bestSignature 4 = .ok (.iload_n 1, 1) := by decide +kernel
theorem dX2_bestSignature_5 : decode cX2_bestSignature 5 = .ok (.invokestatic 63, 3) := by decide +kernel
theorem dX2_bestSignature_8 : decode cX2_bestSignature 8 = .ok (.istore_n 3, 1) := by decide +kernel
theorem dX2_bestSignature_9 : decode cX2_bestSignature 9 = .ok (.iconst 1, 1) := by decide +kernel
theorem dX2_bestSignature_10 : decode cX2_bestSignature 10 = .ok (.istore 4, 2) := by decide +kernel
theorem dX2_bestSignature_12 : decode cX2_bestSignature 12 = .ok (.iload 4, 2) := by decide +kernel
theorem dX2_bestSignature_14 : decode cX2_bestSignature 14 = .ok (.bipush 6, 2) := by decide +kernel
theorem dX2_bestSignature_16 : decode cX2_bestSignature 16 = .ok (.if_icmp .gt 53, 3) := by decide +kernel
theorem dX2_bestSignature_19 : decode cX2_bestSignature 19 = .ok (.aload_n 0, 1) := by decide +kernel
theorem dX2_bestSignature_20 : decode cX2_bestSignature 20 = .ok (.iload 4, 2) := by decide +kernel
theorem dX2_bestSignature_22 : decode cX2_bestSignature 22 = .ok (.iload_n 1, 1) := by decide +kernel
theorem dX2_bestSignature_23 : decode cX2_bestSignature 23 = .ok (.invokestatic 63, 3) := by decide +kernel
theorem dX2_bestSignature_26 : decode cX2_bestSignature 26 = .ok (.istore 5, 2) := by decide +kernel
theorem dX2_bestSignature_28 : decode cX2_bestSignature 28 = .ok (.iload 5, 2) := by decide +kernel
theorem dX2_bestSignature_30 : decode cX2_bestSignature 30 = .ok (.iload_n 3, 1) := by decide +kernel
theorem dX2_bestSignature_31 : decode cX2_bestSignature 31 = .ok (.if_icmp .le 9, 3) := by decide +kernel
theorem dX2_bestSignature_34 : decode cX2_bestSignature 34 = .ok (.iload 4, 2) := by decide +kernel
theorem dX2_bestSignature_36 : decode cX2_bestSignature 36 = .ok (.istore_n 2, 1) := by decide +kernel
theorem dX2_bestSignature_37 : decode cX2_bestSignature 37 = .ok (.iload 5, 2) := by decide +kernel
theorem dX2_bestSignature_39 : decode cX2_bestSignature 39 = .ok (.istore_n 3, 1) := by decide +kernel
theorem dX2_bestSignature_40 : decode cX2_bestSignature 40 = .ok (.aload_n 0, 1) := by decide +kernel
theorem dX2_bestSignature_41 : decode cX2_bestSignature 41 = .ok (.iload 4, 2) := by decide +kernel
theorem dX2_bestSignature_43 : decode cX2_bestSignature 43 = .ok (.ineg, 1) := by decide +kernel
theorem dX2_bestSignature_44 : decode cX2_bestSignature 44 = .ok (.iload_n 1, 1) := by decide +kernel
theorem dX2_bestSignature_45 : decode cX2_bestSignature 45 = .ok (.invokestatic 63, 3) := by decide +kernel
theorem dX2_bestSignature_48 : decode cX2_bestSignature 48 = .ok (.istore 6, 2) := by decide +kernel
theorem dX2_bestSignature_50 : decode cX2_bestSignature 50 = .ok (.iload 6, 2) := by decide +kernel
theorem dX2_bestSignature_52 : decode cX2_bestSignature 52 = .ok (.iload_n 3, 1) := by decide +kernel
theorem dX2_bestSignature_53 : decode cX2_bestSignature 53 = .ok (.if_icmp .le 10, 3) := by decide +kernel
theorem dX2_bestSignature_56 : decode cX2_bestSignature 56 = .ok (.iload 4, 2) := by decide +kernel
theorem dX2_bestSignature_58 : decode cX2_bestSignature 58 = .ok (.ineg, 1) := by decide +kernel
theorem dX2_bestSignature_59 : decode cX2_bestSignature 59 = .ok (.istore_n 2, 1) := by decide +kernel
theorem dX2_bestSignature_60 : decode cX2_bestSignature 60 = .ok (.iload 6, 2) := by decide +kernel
theorem dX2_bestSignature_62 : decode cX2_bestSignature 62 = .ok (.istore_n 3, 1) := by decide +kernel
theorem dX2_bestSignature_63 : decode cX2_bestSignature 63 = .ok (.iinc 4 1, 3) := by decide +kernel
theorem dX2_bestSignature_66 : decode cX2_bestSignature 66 = .ok (.goto (-54), 3) := by decide +kernel
theorem dX2_bestSignature_69 : decode cX2_bestSignature 69 = .ok (.iload_n 2, 1) := by decide +kernel
theorem dX2_bestSignature_70 : decode cX2_bestSignature 70 = .ok (.ireturn, 1) := by decide +kernel
theorem dX2_isInScale_0 : decode cX2_isInScale 0 = .ok (.iload_n 1, 1) := by decide +kernel
theorem dX2_isInScale_1 : decode cX2_isInScale 1 = .ok (.iconst 1, 1) := by decide +kernel
theorem dX2_isInScale_2 : decode cX2_isInScale 2 = .ok (.isub, 1) := by decide +kernel
theorem dX2_isInScale_3 : decode cX2_isInScale 3 = .ok (.istore_n 2, 1) := by decide +kernel
theorem dX2_isInScale_4 : decode cX2_isInScale 4 = .ok (.iload_n 2, 1) := by decide +kernel
theorem dX2_isInScale_5 : decode cX2_isInScale 5 = .ok (.iload_n 0, 1) := by decide +kernel
theorem dX2_isInScale_6 : decode cX2_isInScale 6 = .ok (.invokestatic 15, 3) := by decide +kernel
theorem dX2_isInScale_9 : decode cX2_isInScale 9 = .ok (.iload_n 2, 1) := by decide +kernel
theorem dX2_isInScale_10 : decode cX2_isInScale 10 = .ok (.bipush 7, 2) := by decide +kernel
theorem dX2_isInScale_12 : decode cX2_isInScale 12 = .ok (.iadd, 1) := by decide +kernel
theorem dX2_isInScale_13 : decode cX2_isInScale 13 = .ok (.if_icmp .ge 7, 3) := by decide +kernel
theorem dX2_isInScale_16 : decode cX2_isInScale 16 = .ok (.iconst 1, 1) := by decide +kernel
theorem dX2_isInScale_17 : decode cX2_isInScale 17 = .ok (.goto 4, 3) := by decide +kernel
theorem dX2_isInScale_20 : decode cX2_isInScale 20 = .ok (.iconst 0, 1) := by decide +kernel
theorem dX2_isInScale_21 : decode cX2_isInScale 21 = .ok (.ireturn, 1) := by decide +kernel
theorem dX3_init_0 : decode cX3_init 0 = .ok (.aload_n 0, 1) := by decide +kernel
theorem dX3_init_1 : decode cX3_init 1 = .ok (.invokespecial 3, 3) := by decide +kernel
theorem dX3_init_4 : decode cX3_init 4 = .ok (.aload_n 0, 1) := by decide +kernel
theorem dX3_init_5 : decode cX3_init 5 = .ok (.new 9, 3) := by decide +kernel
theorem dX3_init_8 : decode cX3_init 8 = .ok (.dup, 1) := by decide +kernel
theorem dX3_init_9 : decode cX3_init 9 = .ok (.invokespecial 11, 3) := by decide +kernel
theorem dX3_init_12 : decode cX3_init 12 = .ok (.putfield 12, 3) := by decide +kernel
theorem dX3_init_15 : decode cX3_init 15 = .ok (.aload_n 0, 1) := by decide +kernel
theorem dX3_init_16 : decode cX3_init 16 = .ok (.new 9, 3) := by decide +kernel
theorem dX3_init_19 : decode cX3_init 19 = .ok (.dup, 1) := by decide +kernel
theorem dX3_init_20 : decode cX3_init 20 = .ok (.invokespecial 11, 3) := by decide +kernel
theorem dX3_init_23 : decode cX3_init 23 = .ok (.putfield 18, 3) := by decide +kernel
theorem dX3_init_26 : decode cX3_init 26 = .ok (.aload_n 0, 1) := by decide +kernel
theorem dX3_init_27 : decode cX3_init 27 = .ok (.aload_n 1, 1) := by decide +kernel
theorem dX3_init_28 : decode cX3_init 28 = .ok (.putfield 21, 3) := by decide +kernel
theorem dX3_init_31 : decode cX3_init 31 = .ok (.return_, 1) := by decide +kernel
theorem dX3_countPairs_0 : decode cX3_countPairs 0 = .ok (.aload_n 0, 1) := by decide +kernel
theorem dX3_countPairs_1 : decode cX3_countPairs 1 = .ok (.iload_n 1, 1) := by decide +kernel
theorem dX3_countPairs_2 : decode cX3_countPairs 2 = .ok (.iload_n 2, 1) := by decide +kernel
theorem dX3_countPairs_3 : decode cX3_countPairs 3 = .ok (.invokevirtual 25, 3) := by decide +kernel
theorem dX3_countPairs_6 : decode cX3_countPairs 6 = .ok (.iconst 0, 1) := by decide +kernel
theorem dX3_countPairs_7 : decode cX3_countPairs 7 = .ok (.istore_n 3, 1) := by decide +kernel
theorem dX3_countPairs_8 : decode cX3_countPairs 8 = .ok (.iload_n 3, 1) := by decide +kernel
theorem dX3_countPairs_9 : decode cX3_countPairs 9 = .ok (.sipush 200, 3) := by decide +kernel
theorem dX3_countPairs_12 : decode cX3_countPairs 12 = .ok (.if_icmp .gt 16, 3) := by decide +kernel
theorem dX3_countPairs_15 : decode cX3_countPairs 15 = .ok (.aload_n 0, 1) := by decide +kernel
theorem dX3_countPairs_16 : decode cX3_countPairs 16 = .ok (.invokevirtual 29, 3) := by decide +kernel
theorem dX3_countPairs_19 : decode cX3_countPairs 19 = .ok (.ifCond .eq 9, 3) := by decide +kernel
theorem dX3_countPairs_22 : decode cX3_countPairs 22 = .ok (.iinc 3 1, 3) := by decide +kernel
theorem dX3_countPairs_25 : decode cX3_countPairs 25 = .ok (.goto (-17), 3) := by decide +kernel
theorem dX3_countPairs_28 : decode cX3_countPairs 28 = .ok (.iload_n 3, 1) := by decide +kernel
theorem dX3_countPairs_29 : decode cX3_countPairs 29 = .ok (.ireturn, 1) := by decide +kernel
theorem dX3_find_0 : decode cX3_find 0 = .ok (.aload_n 0, 1) := by decide +kernel
theorem dX3_find_1 : decode cX3_find 1 = .ok (.getfield 21, 3) := by decide +kernel
theorem dX3_find_4 : decode cX3_find 4 = .ok (.iload_n 1, 1) := by decide +kernel
theorem dX3_find_5 : decode cX3_find 5 = .ok (.invokevirtual 33, 3) := by decide +kernel
theorem dX3_find_8 : decode cX3_find 8 = .ok (.ifCond .eq 27, 3) := by decide +kernel
theorem dX3_find_11 : decode cX3_find 11 = .ok (.iload_n 3, 1) := by decide +kernel
theorem dX3_find_12 : decode cX3_find 12 = .ok (.ifCond .eq 8, 3) := by decide +kernel
theorem dX3_find_15 : decode cX3_find 15 = .ok (.iload_n 3, 1) := by decide +kernel
theorem dX3_find_16 : decode cX3_find 16 = .ok (.iconst 1, 1) := by decide +kernel
theorem dX3_find_17 : decode cX3_find 17 = .ok (.if_icmp .ne 18, 3) := by decide +kernel
theorem dX3_find_20 : decode cX3_find 20 = .ok (.iload_n 2, 1) := by decide +kernel
theorem dX3_find_21 : decode cX3_find 21 = .ok (.ifCond .lt 14, 3) := by decide +kernel
theorem dX3_find_24 : decode cX3_find 24 = .ok (.iload_n 2, 1) := by decide +kernel
theorem dX3_find_25 : decode cX3_find 25 = .ok (.sipush 200, 3) := by decide +kernel
theorem dX3_find_28 : decode cX3_find 28 = .ok (.if_icmp .gt 7, 3) := by decide +kernel
theorem dX3_find_31 : decode cX3_find 31 = .ok (.iconst 1, 1) := by decide +kernel
theorem dX3_find_32 : decode cX3_find 32 = .ok (.goto 4, 3) := by decide +kernel
theorem dX3_find_35 : decode cX3_find 35 = .ok (.iconst 0, 1) := by decide +kernel
theorem dX3_find_36 : decode cX3_find 36 = .ok (.istore 5, 2) := by decide +kernel
theorem dX3_find_38 : decode cX3_find 38 = .ok (.aload_n 0, 1) := by decide +kernel
theorem dX3_find_39 : decode cX3_find 39 = .ok (.iload_n 1, 1) := by decide +kernel
theorem dX3_find_40 : decode cX3_find 40 = .ok (.iload 4, 2) := by decide +kernel
theorem dX3_find_42 : decode cX3_find 42 = .ok (.invokevirtual 25, 3) := by decide +kernel
theorem dX3_find_45 : decode cX3_find 45 = .ok (.iconst 0, 1) := by decide +kernel
theorem dX3_find_46 : decode cX3_find 46 = .ok (.istore 6, 2) := by decide +kernel
theorem dX3_find_48 : decode cX3_find 48 = .ok (.iload 5, 2) := by decide +kernel
theorem dX3_find_50 : decode cX3_find 50 = .ok (.ifCond .eq 21, 3) := by decide +kernel
theorem dX3_find_53 : decode cX3_find 53 = .ok (.iload 6, 2) := by decide +kernel
theorem dX3_find_55 : decode cX3_find 55 = .ok (.iload_n 2, 1) := by decide +kernel
theorem dX3_find_56 : decode cX3_find 56 = .ok (.if_icmp .gt 15, 3) := by decide +kernel
theorem dX3_find_59 : decode cX3_find 59 = .ok (.aload_n 0, 1) := by decide +kernel
theorem dX3_find_60 : decode cX3_find 60 = .ok (.invokevirtual 29, 3) := by decide +kernel
theorem dX3_find_63 : decode cX3_find 63 = .ok (.istore 5, 2) := by decide +kernel
theorem dX3_find_65 : decode cX3_find 65 = .ok (.iinc 6 1, 3) := by decide +kernel
theorem dX3_find_68 : decode cX3_find 68 = .ok (.goto (-20), 3) := by decide +kernel
theorem dX3_find_71 : decode cX3_find 71 = .ok (.iload 5, 2) := by decide +kernel
theorem dX3_find_73 : decode cX3_find 73 = .ok (.ifCond .ne 5, 3) := by decide +kernel
theorem dX3_find_76 : decode cX3_find 76 = .ok (.aconst_null, 1) := by decide +kernel
theorem dX3_find_77 : decode cX3_find 77 = .ok (.areturn, 1) := by decide +kernel
theorem dX3_find_78 : decode cX3_find 78 = .ok (.iload_n 3, 1) := by decide +kernel
theorem dX3_find_79 : decode cX3_find 79 = .ok (.ifCond .ne 10, 3) := by decide +kernel
theorem dX3_find_82 : decode cX3_find 82 = .ok (.aload_n 0, 1) := by decide +kernel
theorem dX3_find_83 : decode cX3_find 83 = .ok (.getfield 12, 3) := by decide +kernel
theorem dX3_find_86 : decode cX3_find 86 = .ok (.goto 7, 3) := by decide +kernel
theorem dX3_find_89 : decode cX3_find 89 = .ok (.aload_n 0, 1) := by decide +kernel
theorem dX3_find_90 : decode cX3_find 90 = .ok (.getfield 18, 3) := by decide +kernel
theorem dX3_find_93 : decode cX3_find 93 = .ok (.areturn, 1) := by decide +kernel
theorem dX3_start_0 : decode cX3_start 0 = .ok (.aload_n 0, 1) := by decide +kernel
theorem dX3_start_1 : decode cX3_start 1 = .ok (.iload_n 1, 1) := by decide +kernel
theorem dX3_start_2 : decode cX3_start 2 = .ok (.putfield 39, 3) := by decide +kernel
theorem dX3_start_5 : decode cX3_start 5 = .ok (.aload_n 0, 1) := by decide +kernel
theorem dX3_start_6 : decode cX3_start 6 = .ok (.iload_n 2, 1) := by decide +kernel
theorem dX3_start_7 : decode cX3_start 7 = .ok (.putfield 43, 3) := by decide +kernel
theorem dX3_start_10 : decode cX3_start 10 = .ok (.aload_n 0, 1) := by decide +kernel
theorem dX3_start_11 : decode cX3_start 11 = .ok (.iconst (-1), 1) := by decide +kernel
theorem dX3_start_12 : decode cX3_start 12 = .ok (.putfield 46, 3) := by decide +kernel
theorem dX3_start_15 : decode cX3_start 15 = .ok (.aload_n 0, 1) := by decide +kernel
theorem dX3_start_16 : decode cX3_start 16 = .ok (.aload_n 0, 1) := by decide +kernel
theorem dX3_start_17 : decode cX3_start 17 = .ok (.getfield 21, 3) := by decide +kernel
theorem dX3_start_20 : decode cX3_start 20 = .ok (.iload_n 1, 1) := by decide +kernel
theorem dX3_start_21 : decode cX3_start 21 = .ok (.iconst (-1), 1) := by decide +kernel
theorem dX3_start_22 : decode cX3_start 22 = .ok (.invokevirtual 49, 3) := by decide +kernel
theorem dX3_start_25 : decode cX3_start 25 = .ok (.putfield 53, 3) := by decide +kernel
theorem dX3_start_28 : decode cX3_start 28 = .ok (.return_, 1) := by decide +kernel
theorem dX3_layNext_0 : decode cX3_layNext 0 = .ok (.aload_n 0, 1) := by decide +kernel
theorem dX3_layNext_1 : decode cX3_layNext 1 = .ok (.getfield 21, 3) := by decide +kernel
theorem dX3_layNext_4 : decode cX3_layNext 4 = .ok (.aload_n 0, 1) := by decide +kernel
theorem dX3_layNext_5 : decode cX3_layNext 5 = .ok (.getfield 39, 3) := by decide +kernel
theorem dX3_layNext_8 : decode cX3_layNext 8 = .ok (.invokevirtual 56, 3) := by decide +kernel
theorem dX3_layNext_11 : decode cX3_layNext 11 = .ok (.istore_n 1, 1) := by decide +kernel
theorem dX3_layNext_12 : decode cX3_layNext 12 = .ok (.aload_n 0, 1) := by decide +kernel
theorem dX3_layNext_13 : decode cX3_layNext 13 = .ok (.getfield 46, 3) := by decide +kernel
theorem dX3_layNext_16 : decode cX3_layNext 16 = .ok (.iload_n 1, 1) := by decide +kernel
theorem dX3_layNext_17 : decode cX3_layNext 17 = .ok (.if_icmp .lt 5, 3) := by decide +kernel
theorem dX3_layNext_20 : decode cX3_layNext 20 = .ok (.iconst 0, 1) := by decide +kernel
theorem dX3_layNext_21 : decode cX3_layNext 21 = .ok (.ireturn, 1) := by decide +kernel
theorem dX3_layNext_22 : decode cX3_layNext 22 = .ok (.aload_n 0, 1) := by decide +kernel
theorem dX3_layNext_23 : decode cX3_layNext 23 = .ok (.aload_n 0, 1) := by decide +kernel
theorem dX3_layNext_24 : decode cX3_layNext 24 = .ok (.getfield 46, 3) := by decide +kernel
theorem dX3_layNext_27 : decode cX3_layNext 27 = .ok (.iconst 0, 1) := by decide +kernel
theorem dX3_layNext_28 : decode cX3_layNext 28 = .ok (.invokestatic 60, 3) := by decide +kernel
theorem dX3_layNext_31 : decode cX3_layNext 31 = .ok (.putfield 65, 3) := by decide +kernel
theorem dX3_layNext_34 : decode cX3_layNext 34 = .ok (.aload_n 0, 1) := by decide +kernel
theorem dX3_layNext_35 : decode cX3_layNext 35 = .ok (.iconst (-1), 1) := by decide +kernel
theorem dX3_layNext_36 : decode cX3_layNext 36 = .ok (.putfield 46, 3) := by decide +kernel
theorem dX3_layNext_39 : decode cX3_layNext 39 = .ok (.aload_n 0, 1) := by decide +kernel
theorem dX3_layNext_40 : decode cX3_layNext 40 = .ok (.aload_n 0, 1) := by decide +kernel
theorem dX3_layNext_41 : decode cX3_layNext 41 = .ok (.getfield 53, 3) := by decide +kernel
theorem dX3_layNext_44 : decode cX3_layNext 44 = .ok (.putfield 68, 3) := by decide +kernel
theorem dX3_layNext_47 : decode cX3_layNext 47 = .ok (.aload_n 0, 1) := by decide +kernel
theorem dX3_layNext_48 : decode cX3_layNext 48 = .ok (.getfield 12, 3) := by decide +kernel
theorem dX3_layNext_51 : decode cX3_layNext 51 = .ok (.iconst 0, 1) := by decide +kernel
theorem dX3_layNext_52 : decode cX3_layNext 52 = .ok (.invokevirtual 71, 3) := by decide +kernel
theorem dX3_layNext_55 : decode cX3_layNext 55 = .ok (.aload_n 0, 1) := by decide +kernel
theorem dX3_layNext_56 : decode cX3_layNext 56 = .ok (.getfield 18, 3) := by decide +kernel
theorem dX3_layNext_59 : decode cX3_layNext 59 = .ok (.iconst 0, 1) := by decide +kernel
theorem dX3_layNext_60 : decode cX3_layNext 60 = .ok (.invokevirtual 71, 3) := by decide +kernel
theorem dX3_layNext_63 : decode cX3_layNext 63 = .ok (.iconst 1, 1) := by decide +kernel
theorem dX3_layNext_64 : decode cX3_layNext 64 = .ok (.istore_n 2, 1) := by decide +kernel
theorem dX3_layNext_65 : decode cX3_layNext 65 = .ok (.aload_n 0, 1) := by decide +kernel
theorem dX3_layNext_66 : decode cX3_layNext 66 = .ok (.getfield 65, 3) := by decide +kernel
theorem dX3_layNext_69 : decode cX3_layNext 69 = .ok (.istore_n 3, 1) := by decide +kernel
theorem dX3_layNext_70 : decode cX3_layNext 70 = .ok (.iload_n 2, 1) := by decide +kernel
theorem dX3_layNext_71 : decode cX3_layNext 71 = .ok (.ifCond .eq 65, 3) := by decide +kernel
theorem dX3_layNext_74 : decode cX3_layNext 74 = .ok (.iload_n 3, 1) := by decide +kernel
theorem dX3_layNext_75 : decode cX3_layNext 75 = .ok (.iload_n 1, 1) := by decide +kernel
theorem dX3_layNext_76 : decode cX3_layNext 76 = .ok (.if_icmp .ge 60, 3) := by decide +kernel
theorem dX3_layNext_79 : decode cX3_layNext 79 = .ok (.aload_n 0, 1) := by decide +kernel
theorem dX3_layNext_80 : decode cX3_layNext 80 = .ok (.iload_n 3, 1) := by decide +kernel
theorem dX3_layNext_81 : decode cX3_layNext 81 = .ok (.invokevirtual 75, 3) := by decide +kernel
theorem dX3_layNext_84 : decode cX3_layNext 84 = .ok (.ifCond .eq 11, 3) := by decide +kernel
theorem dX3_layNext_87 : decode cX3_layNext 87 = .ok (.aload_n 0, 1) := by decide +kernel
theorem dX3_layNext_88 : decode cX3_layNext 88 = .ok (.iload_n 3, 1) := by decide +kernel
theorem dX3_layNext_89 : decode cX3_layNext 89 = .ok (.invokevirtual 78, 3) := by decide +kernel
theorem dX3_layNext_92 : decode cX3_layNext 92 = .ok (.ifCond .eq 7, 3) := by decide +kernel
theorem dX3_layNext_95 : decode cX3_layNext 95 = .ok (.iconst 1, 1) := by decide +kernel
theorem dX3_layNext_96 : decode cX3_layNext 96 = .ok (.goto 4, 3) := by decide +kernel
theorem dX3_layNext_99 : decode cX3_layNext 99 = .ok (.iconst 0, 1) := by decide +kernel
theorem dX3_layNext_100 : decode cX3_layNext 100 = .ok (.istore_n 2, 1) := by decide +kernel
theorem dX3_layNext_101 : decode cX3_layNext 101 = .ok (.iload_n 2, 1) := by decide +kernel
theorem dX3_layNext_102 : decode cX3_layNext 102 = .ok (.ifCond .eq 28, 3) := by decide +kernel
theorem dX3_layNext_105 : decode cX3_layNext 105 = .ok (.aload_n 0, 1) := by decide +kernel
theorem dX3_layNext_106 : decode cX3_layNext 106 = .ok (.iload_n 3, 1) := by decide +kernel
theorem dX3_layNext_107 : decode cX3_layNext 107 = .ok (.invokevirtual 81, 3) := by decide +kernel
theorem dX3_layNext_110 : decode cX3_layNext 110 = .ok (.aload_n 0, 1) := by decide +kernel
theorem dX3_layNext_111 : decode cX3_layNext 111 = .ok (.getfield 18, 3) := by decide +kernel
theorem dX3_layNext_114 : decode cX3_layNext 114 = .ok (.aload_n 0, 1) := by decide +kernel
theorem dX3_layNext_115 : decode cX3_layNext 115 = .ok (.getfield 21, 3) := by decide +kernel
theorem dX3_layNext_118 : decode cX3_layNext 118 = .ok (.aload_n 0, 1) := by decide +kernel
theorem dX3_layNext_119 : decode cX3_layNext 119 = .ok (.getfield 39, 3) := by decide +kernel
theorem dX3_layNext_122 : decode cX3_layNext 122 = .ok (.iload_n 3, 1) := by decide +kernel
theorem dX3_layNext_123 : decode cX3_layNext 123 = .ok (.invokevirtual 84, 3) := by decide +kernel
theorem dX3_layNext_126 : decode cX3_layNext 126 = .ok (.i2c, 1) := by decide +kernel
theorem dX3_layNext_127 : decode cX3_layNext 127 = .ok (.invokevirtual 87, 3) := by decide +kernel
theorem dX3_layNext_130 : decode cX3_layNext 130 = .ok (.iinc 3 1, 3) := by decide +kernel
theorem dX3_layNext_133 : decode cX3_layNext 133 = .ok (.goto (-63), 3) := by decide +kernel
theorem dX3_layNext_136 : decode cX3_layNext 136 = .ok (.iload_n 2, 1) := by decide +kernel
theorem dX3_layNext_137 : decode cX3_layNext 137 = .ok (.ifCond .eq 14, 3) := by decide +kernel
theorem dX3_layNext_140 : decode cX3_layNext 140 = .ok (.aload_n 0, 1) := by decide +kernel
theorem dX3_layNext_141 : decode cX3_layNext 141 = .ok (.iload_n 1, 1) := by decide +kernel
theorem dX3_layNext_142 : decode cX3_layNext 142 = .ok (.invokevirtual 81, 3) := by decide +kernel
theorem dX3_layNext_145 : decode cX3_layNext 145 = .ok (.aload_n 0, 1) := by decide +kernel
theorem dX3_layNext_146 : decode cX3_layNext 146 = .ok (.iload_n 1, 1) := by decide +kernel
theorem dX3_layNext_147 : decode cX3_layNext 147 = .ok (.invokevirtual 78, 3) := by decide +kernel
theorem dX3_layNext_150 : decode cX3_layNext 150 = .ok (.pop, 1) := by decide +kernel
theorem dX3_layNext_151 : decode cX3_layNext 151 = .ok (.aload_n 0, 1) := by decide +kernel
theorem dX3_layNext_152 : decode cX3_layNext 152 = .ok (.invokevirtual 91, 3) := by decide +kernel
theorem dX3_layNext_155 : decode cX3_layNext 155 = .ok (.iconst 1, 1) := by decide +kernel
theorem dX3_layNext_156 : decode cX3_layNext 156 = .ok (.ireturn, 1) := by decide +kernel
theorem dX3_isInnerBreak_0 : decode cX3_isInnerBreak 0 = .ok (.iload_n 1, 1) := by decide +kernel
theorem dX3_isInnerBreak_1 : decode cX3_isInnerBreak 1 = .ok (.aload_n 0, 1) := by decide +kernel
theorem dX3_isInnerBreak_2 : decode cX3_isInnerBreak 2 = .ok (.getfield 65, 3) := by decide +kernel
theorem dX3_isInnerBreak_5 : decode cX3_isInnerBreak 5 = .ok (.if_icmp .le 34, 3) := by decide +kernel
theorem dX3_isInnerBreak_8 : decode cX3_isInnerBreak 8 = .ok (.aload_n 0, 1) := by decide +kernel
theorem dX3_isInnerBreak_9 : decode cX3_isInnerBreak 9 = .ok (.iload_n 1, 1) := by decide +kernel
theorem dX3_isInnerBreak_10 : decode cX3_isInnerBreak 10 = .ok (.invokevirtual 94, 3) := by decide +kernel
theorem dX3_isInnerBreak_13 : decode cX3_isInnerBreak 13 = .ok (.ifCond .eq 26, 3) := by decide +kernel
theorem dX3_isInnerBreak_16 : decode cX3_isInnerBreak 16 = .ok (.aload_n 0, 1) := by decide +kernel
theorem dX3_isInnerBreak_17 : decode cX3_isInnerBreak 17 = .ok (.getfield 21, 3) := by decide +kernel
theorem dX3_isInnerBreak_20 : decode cX3_isInnerBreak 20 = .ok (.aload_n 0, 1) := by decide +kernel
theorem dX3_isInnerBreak_21 : decode cX3_isInnerBreak 21 = .ok (.getfield 39, 3) := by decide +kernel
theorem dX3_isInnerBreak_24 : decode cX3_isInnerBreak 24 = .ok (.iload_n 1, 1) := by decide +kernel
theorem dX3_isInnerBreak_25 : decode cX3_isInnerBreak 25 = .ok (.iconst 1, 1) := by decide +kernel
theorem dX3_isInnerBreak_26 : decode cX3_isInnerBreak 26 = .ok (.isub, 1) := by decide +kernel
theorem dX3_isInnerBreak_27 : decode cX3_isInnerBreak 27 = .ok (.invokevirtual 84, 3) := by decide +kernel
theorem dX3_isInnerBreak_30 : decode cX3_isInnerBreak 30 = .ok (.bipush 32, 2) := by decide +kernel
theorem dX3_isInnerBreak_32 : decode cX3_isInnerBreak 32 = .ok (.if_icmp .ne 7, 3) := by decide +kernel
theorem dX3_isInnerBreak_35 : decode cX3_isInnerBreak 35 = .ok (.iconst 1, 1) := by decide +kernel
theorem dX3_isInnerBreak_36 : decode cX3_isInnerBreak 36 = .ok (.goto 4, 3) := by decide +kernel
theorem dX3_isInnerBreak_39 : decode cX3_isInnerBreak 39 = .ok (.iconst 0, 1) := by decide +kernel
theorem dX3_isInnerBreak_40 : decode cX3_isInnerBreak 40 = .ok (.ireturn, 1) := by decide +kernel
theorem dX3_isLetter_0 : decode cX3_isLetter 0 = .ok (.aload_n 0, 1) := by decide +kernel
theorem dX3_isLetter_1 : decode cX3_isLetter 1 = .ok (.getfield 21, 3) := by decide +kernel
theorem dX3_isLetter_4 : decode cX3_isLetter 4 = .ok (.aload_n 0, 1) := by decide +kernel
theorem dX3_isLetter_5 : decode cX3_isLetter 5 = .ok (.getfield 39, 3) := by decide +kernel
theorem dX3_isLetter_8 : decode cX3_isLetter 8 = .ok (.iload_n 1, 1) := by decide +kernel
theorem dX3_isLetter_9 : decode cX3_isLetter 9 = .ok (.invokevirtual 84, 3) := by decide +kernel
theorem dX3_isLetter_12 : decode cX3_isLetter 12 = .ok (.istore_n 2, 1) := by decide +kernel
theorem dX3_isLetter_13 : decode cX3_isLetter 13 = .ok (.iload_n 2, 1) := by decide +kernel
theorem dX3_isLetter_14 : decode cX3_isLetter 14 = .ok (.iconst (-1), 1) := by decide +kernel
theorem dX3_isLetter_15 : decode cX3_isLetter 15 = .ok (.if_icmp .eq 13, 3) := by decide +kernel
theorem dX3_isLetter_18 : decode cX3_isLetter 18 = .ok (.iload_n 2, 1) := by decide +kernel
theorem dX3_isLetter_19 : decode cX3_isLetter 19 = .ok (.bipush 32, 2) := by decide +kernel
theorem dX3_isLetter_21 : decode cX3_isLetter 21 = .ok (.if_icmp .eq 7, 3) := by decide +kernel
theorem dX3_isLetter_24 : decode cX3_isLetter 24 = .ok (.iconst 1, 1) := by decide +kernel
theorem dX3_isLetter_25 : decode cX3_isLetter 25 = .ok (.goto 4, 3) := by decide +kernel
theorem dX3_isLetter_28 : decode cX3_isLetter 28 = .ok (.iconst 0, 1) := by decide +kernel
theorem dX3_isLetter_29 : decode cX3_isLetter 29 = .ok (.ireturn, 1) := by decide +kernel
theorem dX3_offerEnd_0 : decode cX3_offerEnd 0 = .ok (.aload_n 0, 1) := by decide +kernel
theorem dX3_offerEnd_1 : decode cX3_offerEnd 1 = .ok (.getfield 12, 3) := by decide +kernel
theorem dX3_offerEnd_4 : decode cX3_offerEnd 4 = .ok (.invokevirtual 97, 3) := by decide +kernel
theorem dX3_offerEnd_7 : decode cX3_offerEnd 7 = .ok (.aload_n 0, 1) := by decide +kernel
theorem dX3_offerEnd_8 : decode cX3_offerEnd 8 = .ok (.getfield 43, 3) := by decide +kernel
theorem dX3_offerEnd_11 : decode cX3_offerEnd 11 = .ok (.if_icmp .gt 21, 3) := by decide +kernel
theorem dX3_offerEnd_14 : decode cX3_offerEnd 14 = .ok (.aload_n 0, 1) := by decide +kernel
theorem dX3_offerEnd_15 : decode cX3_offerEnd 15 = .ok (.getfield 18, 3) := by decide +kernel
theorem dX3_offerEnd_18 : decode cX3_offerEnd 18 = .ok (.invokevirtual 97, 3) := by decide +kernel
theorem dX3_offerEnd_21 : decode cX3_offerEnd 21 = .ok (.aload_n 0, 1) := by decide +kernel
theorem dX3_offerEnd_22 : decode cX3_offerEnd 22 = .ok (.getfield 43, 3) := by decide +kernel
theorem dX3_offerEnd_25 : decode cX3_offerEnd 25 = .ok (.if_icmp .gt 7, 3) := by decide +kernel
theorem dX3_offerEnd_28 : decode cX3_offerEnd 28 = .ok (.iconst 1, 1) := by decide +kernel
theorem dX3_offerEnd_29 : decode cX3_offerEnd 29 = .ok (.goto 4, 3) := by decide +kernel
theorem dX3_offerEnd_32 : decode cX3_offerEnd 32 = .ok (.iconst 0, 1) := by decide +kernel
theorem dX3_offerEnd_33 : decode cX3_offerEnd 33 = .ok (.istore_n 2, 1) := by decide +kernel
theorem dX3_offerEnd_34 : decode cX3_offerEnd 34 = .ok (.iload_n 2, 1) := by decide +kernel
theorem dX3_offerEnd_35 : decode cX3_offerEnd 35 = .ok (.ifCond .ne 11, 3) := by decide +kernel
theorem dX3_offerEnd_38 : decode cX3_offerEnd 38 = .ok (.aload_n 0, 1) := by decide +kernel
theorem dX3_offerEnd_39 : decode cX3_offerEnd 39 = .ok (.getfield 46, 3) := by decide +kernel
theorem dX3_offerEnd_42 : decode cX3_offerEnd 42 = .ok (.iconst (-1), 1) := by decide +kernel
theorem dX3_offerEnd_43 : decode cX3_offerEnd 43 = .ok (.if_icmp .ne 38, 3) := by decide +kernel
theorem dX3_offerEnd_46 : decode cX3_offerEnd 46 = .ok (.aload_n 0, 1) := by decide +kernel
theorem dX3_offerEnd_47 : decode cX3_offerEnd 47 = .ok (.iload_n 1, 1) := by decide +kernel
theorem dX3_offerEnd_48 : decode cX3_offerEnd 48 = .ok (.putfield 46, 3) := by decide +kernel
theorem dX3_offerEnd_51 : decode cX3_offerEnd 51 = .ok (.aload_n 0, 1) := by decide +kernel
theorem dX3_offerEnd_52 : decode cX3_offerEnd 52 = .ok (.aload_n 0, 1) := by decide +kernel
theorem dX3_offerEnd_53 : decode cX3_offerEnd 53 = .ok (.getfield 68, 3) := by decide +kernel
theorem dX3_offerEnd_56 : decode cX3_offerEnd 56 = .ok (.putfield 53, 3) := by decide +kernel
theorem dX3_offerEnd_59 : decode cX3_offerEnd 59 = .ok (.aload_n 0, 1) := by decide +kernel
theorem dX3_offerEnd_60 : decode cX3_offerEnd 60 = .ok (.aload_n 0, 1) := by decide +kernel
theorem dX3_offerEnd_61 : decode cX3_offerEnd 61 = .ok (.getfield 12, 3) := by decide +kernel
theorem dX3_offerEnd_64 : decode cX3_offerEnd 64 = .ok (.invokevirtual 97, 3) := by decide +kernel
theorem dX3_offerEnd_67 : decode cX3_offerEnd 67 = .ok (.putfield 101, 3) := by decide +kernel
theorem dX3_offerEnd_70 : decode cX3_offerEnd 70 = .ok (.aload_n 0, 1) := by decide +kernel
theorem dX3_offerEnd_71 : decode cX3_offerEnd 71 = .ok (.aload_n 0, 1) := by decide +kernel
theorem dX3_offerEnd_72 : decode cX3_offerEnd 72 = .ok (.getfield 18, 3) := by decide +kernel
theorem dX3_offerEnd_75 : decode cX3_offerEnd 75 = .ok (.invokevirtual 97, 3) := by decide +kernel
theorem dX3_offerEnd_78 : decode cX3_offerEnd 78 = .ok (.putfield 104, 3) := by decide +kernel
theorem dX3_offerEnd_81 : decode cX3_offerEnd 81 = .ok (.iload_n 2, 1) := by decide +kernel
theorem dX3_offerEnd_82 : decode cX3_offerEnd 82 = .ok (.ireturn, 1) := by decide +kernel
theorem dX3_cutBack_0 : decode cX3_cutBack 0 = .ok (.aload_n 0, 1) := by decide +kernel
theorem dX3_cutBack_1 : decode cX3_cutBack 1 = .ok (.getfield 12, 3) := by decide +kernel
theorem dX3_cutBack_4 : decode cX3_cutBack 4 = .ok (.aload_n 0, 1) := by decide +kernel
theorem dX3_cutBack_5 : decode cX3_cutBack 5 = .ok (.getfield 101, 3) := by decide +kernel
theorem dX3_cutBack_8 : decode cX3_cutBack 8 = .ok (.invokevirtual 71, 3) := by decide +kernel
theorem dX3_cutBack_11 : decode cX3_cutBack 11 = .ok (.aload_n 0, 1) := by decide +kernel
theorem dX3_cutBack_12 : decode cX3_cutBack 12 = .ok (.getfield 18, 3) := by decide +kernel
theorem dX3_cutBack_15 : decode cX3_cutBack 15 = .ok (.aload_n 0, 1) := by decide +kernel
theorem dX3_cutBack_16 : decode cX3_cutBack 16 = .ok (.getfield 104, 3) := by decide +kernel
theorem dX3_cutBack_19 : decode cX3_cutBack 19 = .ok (.invokevirtual 71, 3) := by decide +kernel
theorem dX3_cutBack_22 : decode cX3_cutBack 22 = .ok (.return_, 1) := by decide +kernel
theorem dX3_placeChords_0 : decode cX3_placeChords 0 = .ok (.aload_n 0, 1) := by decide +kernel
theorem dX3_placeChords_1 : decode cX3_placeChords 1 = .ok (.iload_n 1, 1) := by decide +kernel
theorem dX3_placeChords_2 : decode cX3_placeChords 2 = .ok (.iconst 1, 1) := by decide +kernel
theorem dX3_placeChords_3 : decode cX3_placeChords 3 = .ok (.isub, 1) := by decide +kernel
theorem dX3_placeChords_4 : decode cX3_placeChords 4 = .ok (.invokevirtual 94, 3) := by decide +kernel
theorem dX3_placeChords_7 : decode cX3_placeChords 7 = .ok (.ifCond .eq 16, 3) := by decide +kernel
theorem dX3_placeChords_10 : decode cX3_placeChords 10 = .ok (.aload_n 0, 1) := by decide +kernel
theorem dX3_placeChords_11 : decode cX3_placeChords 11 = .ok (.iload_n 1, 1) := by decide +kernel
theorem dX3_placeChords_12 : decode cX3_placeChords 12 = .ok (.invokevirtual 94, 3) := by decide +kernel
theorem dX3_placeChords_15 : decode cX3_placeChords 15 = .ok (.ifCond .eq 8, 3) := by decide +kernel
theorem dX3_placeChords_18 : decode cX3_placeChords 18 = .ok (.bipush 45, 2) := by decide +kernel
theorem dX3_placeChords_20 : decode cX3_placeChords 20 = .ok (.goto 5, 3) := by decide +kernel
theorem dX3_placeChords_23 : decode cX3_placeChords 23 = .ok (.bipush 32, 2) := by decide +kernel
theorem dX3_placeChords_25 : decode cX3_placeChords 25 = .ok (.istore_n 2, 1) := by decide +kernel
theorem dX3_placeChords_26 : decode cX3_placeChords 26 = .ok (.aload_n 0, 1) := by decide +kernel
theorem dX3_placeChords_27 : decode cX3_placeChords 27 = .ok (.getfield 68, 3) := by decide +kernel
theorem dX3_placeChords_30 : decode cX3_placeChords 30 = .ok (.aload_n 0, 1) := by decide +kernel
theorem dX3_placeChords_31 : decode cX3_placeChords 31 = .ok (.getfield 21, 3) := by decide +kernel
theorem dX3_placeChords_34 : decode cX3_placeChords 34 = .ok (.invokevirtual 107, 3) := by decide +kernel
theorem dX3_placeChords_37 : decode cX3_placeChords 37 = .ok (.if_icmp .ge 93, 3) := by decide +kernel
theorem dX3_placeChords_40 : decode cX3_placeChords 40 = .ok (.aload_n 0, 1) := by decide +kernel
theorem dX3_placeChords_41 : decode cX3_placeChords 41 = .ok (.getfield 21, 3) := by decide +kernel
theorem dX3_placeChords_44 : decode cX3_placeChords 44 = .ok (.aload_n 0, 1) := by decide +kernel
theorem dX3_placeChords_45 : decode cX3_placeChords 45 = .ok (.getfield 68, 3) := by decide +kernel
theorem dX3_placeChords_48 : decode cX3_placeChords 48 = .ok (.aload_n 0, 1) := by decide +kernel
theorem dX3_placeChords_49 : decode cX3_placeChords 49 = .ok (.getfield 39, 3) := by decide +kernel
theorem dX3_placeChords_52 : decode cX3_placeChords 52 = .ok (.iload_n 1, 1) := by decide +kernel
theorem dX3_placeChords_53 : decode cX3_placeChords 53 = .ok (.invokevirtual 110, 3) := by decide +kernel
theorem dX3_placeChords_56 : decode cX3_placeChords 56 = .ok (.ifCond .eq 74, 3) := by decide +kernel
theorem dX3_placeChords_59 : decode cX3_placeChords 59 = .ok (.aload_n 0, 1) := by decide +kernel
theorem dX3_placeChords_60 : decode cX3_placeChords 60 = .ok (.getfield 12, 3) := by decide +kernel
theorem dX3_placeChords_63 : decode cX3_placeChords 63 = .ok (.invokevirtual 97, 3) := by decide +kernel
theorem dX3_placeChords_66 : decode cX3_placeChords 66 = .ok (.ifCond .le 20, 3) := by decide +kernel
theorem dX3_placeChords_69 : decode cX3_placeChords 69 = .ok (.aload_n 0, 1) := by decide +kernel
theorem dX3_placeChords_70 : decode cX3_placeChords 70 = .ok (.getfield 18, 3) := by decide +kernel
theorem dX3_placeChords_73 : decode cX3_placeChords 73 = .ok (.aload_n 0, 1) := by decide +kernel
theorem dX3_placeChords_74 : decode cX3_placeChords 74 = .ok (.getfield 12, 3) := by decide +kernel
theorem dX3_placeChords_77 : decode cX3_placeChords 77 = .ok (.invokevirtual 97, 3) := by decide +kernel
theorem dX3_placeChords_80 : decode cX3_placeChords 80 = .ok (.iconst 1, 1) := by decide +kernel
theorem dX3_placeChords_81 : decode cX3_placeChords 81 = .ok (.iadd, 1) := by decide +kernel
theorem dX3_placeChords_82 : decode cX3_placeChords 82 = .ok (.iload_n 2, 1) := by decide +kernel
theorem dX3_placeChords_83 : decode cX3_placeChords 83 = .ok (.invokevirtual 114, 3) := by decide +kernel
theorem dX3_placeChords_86 : decode cX3_placeChords 86 = .ok (.aload_n 0, 1) := by decide +kernel
theorem dX3_placeChords_87 : decode cX3_placeChords 87 = .ok (.getfield 12, 3) := by decide +kernel
theorem dX3_placeChords_90 : decode cX3_placeChords 90 = .ok (.aload_n 0, 1) := by decide +kernel
theorem dX3_placeChords_91 : decode cX3_placeChords 91 = .ok (.getfield 18, 3) := by decide +kernel
theorem dX3_placeChords_94 : decode cX3_placeChords 94 = .ok (.invokevirtual 97, 3) := by decide +kernel
theorem dX3_placeChords_97 : decode cX3_placeChords 97 = .ok (.bipush 32, 2) := by decide +kernel
theorem dX3_placeChords_99 : decode cX3_placeChords 99 = .ok (.invokevirtual 114, 3) := by decide +kernel
theorem dX3_placeChords_102 : decode cX3_placeChords 102 = .ok (.aload_n 0, 1) := by decide +kernel
theorem dX3_placeChords_103 : decode cX3_placeChords 103 = .ok (.getfield 21, 3) := by decide +kernel
theorem dX3_placeChords_106 : decode cX3_placeChords 106 = .ok (.aload_n 0, 1) := by decide +kernel
theorem dX3_placeChords_107 : decode cX3_placeChords 107 = .ok (.getfield 68, 3) := by decide +kernel
theorem dX3_placeChords_110 : decode cX3_placeChords 110 = .ok (.aload_n 0, 1) := by decide +kernel
theorem dX3_placeChords_111 : decode cX3_placeChords 111 = .ok (.getfield 12, 3) := by decide +kernel
theorem dX3_placeChords_114 : decode cX3_placeChords 114 = .ok (.invokevirtual 118, 3) := by decide +kernel
theorem dX3_placeChords_117 : decode cX3_placeChords 117 = .ok (.aload_n 0, 1) := by decide +kernel
theorem dX3_placeChords_118 : decode cX3_placeChords 118 = .ok (.dup, 1) := by decide +kernel
theorem dX3_placeChords_119 : decode cX3_placeChords 119 = .ok (.getfield 68, 3) := by decide +kernel
theorem dX3_placeChords_122 : decode cX3_placeChords 122 = .ok (.iconst 1, 1) := by decide +kernel
theorem dX3_placeChords_123 : decode cX3_placeChords 123 = .ok (.iadd, 1) := by decide +kernel
theorem dX3_placeChords_124 : decode cX3_placeChords 124 = .ok (.putfield 68, 3) := by decide +kernel
theorem dX3_placeChords_127 : decode cX3_placeChords 127 = .ok (.goto (-101), 3) := by decide +kernel
theorem dX3_placeChords_130 : decode cX3_placeChords 130 = .ok (.return_, 1) := by decide +kernel
theorem dX4_pitchClass_0 : decode cX4_pitchClass 0 = .ok (.bipush 7, 2) := by decide +kernel
theorem dX4_pitchClass_2 : decode cX4_pitchClass 2 = .ok (.iload_n 0, 1) := by decide +kernel
theorem dX4_pitchClass_3 : decode cX4_pitchClass 3 = .ok (.imul, 1) := by decide +kernel
theorem dX4_pitchClass_4 : decode cX4_pitchClass 4 = .ok (.bipush 12, 2) := by decide +kernel
theorem dX4_pitchClass_6 : decode cX4_pitchClass 6 = .ok (.invokestatic 9, 3) := by decide +kernel
theorem dX4_pitchClass_9 : decode cX4_pitchClass 9 = .ok (.ireturn, 1) := by decide +kernel
theorem dX4_raised_0 : decode cX4_raised 0 = .ok (.bipush 7, 2) := by decide +kernel
theorem dX4_raised_2 : decode cX4_raised 2 = .ok (.iload_n 0, 1) := by decide +kernel
theorem dX4_raised_3 : decode cX4_raised 3 = .ok (.imul, 1) := by decide +kernel
theorem dX4_raised_4 : decode cX4_raised 4 = .ok (.iload_n 1, 1) := by decide +kernel
theorem dX4_raised_5 : decode cX4_raised 5 = .ok (.iadd, 1) := by decide +kernel
theorem dX4_raised_6 : decode cX4_raised 6 = .ok (.bipush 12, 2) := by decide +kernel
theorem dX4_raised_8 : decode cX4_raised 8 = .ok (.invokestatic 9, 3) := by decide +kernel
theorem dX4_raised_11 : decode cX4_raised 11 = .ok (.ireturn, 1) := by decide +kernel
theorem dX4_raisedSet_0 : decode cX4_raisedSet 0 = .ok (.iload_n 0, 1) := by decide +kernel
theorem dX4_raisedSet_1 : decode cX4_raisedSet 1 = .ok (.iload_n 1, 1) := by decide +kernel
theorem dX4_raisedSet_2 : decode cX4_raisedSet 2 = .ok (.ishl, 1) := by decide +kernel
theorem dX4_raisedSet_3 : decode cX4_raisedSet 3 = .ok (.istore_n 2, 1) := by decide +kernel
theorem dX4_raisedSet_4 : decode cX4_raisedSet 4 = .ok (.iload_n 2, 1) := by decide +kernel
theorem dX4_raisedSet_5 : decode cX4_raisedSet 5 = .ok (.iload_n 2, 1) := by decide +kernel
theorem dX4_raisedSet_6 : decode cX4_raisedSet 6 = .ok (.bipush 12, 2) := by decide +kernel
theorem dX4_raisedSet_8 : decode cX4_raisedSet 8 = .ok (.ishr, 1) := by decide +kernel
theorem dX4_raisedSet_9 : decode cX4_raisedSet 9 = .ok (.ior, 1) := by decide +kernel
theorem dX4_raisedSet_10 : decode cX4_raisedSet 10 = .ok (.sipush 4095, 3) := by decide +kernel
theorem dX4_raisedSet_13 : decode cX4_raisedSet 13 = .ok (.iand, 1) := by decide +kernel
theorem dX4_raisedSet_14 : decode cX4_raisedSet 14 = .ok (.ireturn, 1) := by decide +kernel
theorem dX4_placeFrom_0 : decode cX4_placeFrom 0 = .ok (.iload_n 0, 1) := by decide +kernel
theorem dX4_placeFrom_1 : decode cX4_placeFrom 1 = .ok (.bipush 7, 2) := by decide +kernel
theorem dX4_placeFrom_3 : decode cX4_placeFrom 3 = .ok (.iload_n 1, 1) := by decide +kernel
theorem dX4_placeFrom_4 : decode cX4_placeFrom 4 = .ok (.imul, 1) := by decide +kernel
theorem dX4_placeFrom_5 : decode cX4_placeFrom 5 = .ok (.iload_n 0, 1) := by decide +kernel
theorem dX4_placeFrom_6 : decode cX4_placeFrom 6 = .ok (.isub, 1) := by decide +kernel
theorem dX4_placeFrom_7 : decode cX4_placeFrom 7 = .ok (.bipush 12, 2) := by decide +kernel
theorem dX4_placeFrom_9 : decode cX4_placeFrom 9 = .ok (.invokestatic 9, 3) := by decide +kernel
theorem dX4_placeFrom_12 : decode cX4_placeFrom 12 = .ok (.iadd, 1) := by decide +kernel
theorem dX4_placeFrom_13 : decode cX4_placeFrom 13 = .ok (.ireturn, 1) := by decide +kernel
theorem dX4_natural_0 : decode cX4_natural 0 = .ok (.iload_n 0, 1) := by decide +kernel
theorem dX4_natural_1 : decode cX4_natural 1 = .ok (.bipush 65, 2) := by decide +kernel
theorem dX4_natural_3 : decode cX4_natural 3 = .ok (.if_icmp .lt 9, 3) := by decide +kernel
theorem dX4_natural_6 : decode cX4_natural 6 = .ok (.iload_n 0, 1) := by decide +kernel
theorem dX4_natural_7 : decode cX4_natural 7 = .ok (.bipush 71, 2) := by decide +kernel
theorem dX4_natural_9 : decode cX4_natural 9 = .ok (.if_icmp .le 6, 3) := by decide +kernel
theorem dX4_natural_12 : decode cX4_natural 12 = .ok (.bipush 100, 2) := by decide +kernel
theorem dX4_natural_14 : decode cX4_natural 14 = .ok (.ireturn, 1) := by decide +kernel
theorem dX4_natural_15 : decode cX4_natural 15 = .ok (.iconst (-1), 1) := by decide +kernel
theorem dX4_natural_16 : decode cX4_natural 16 = .ok (.ldc 17, 2) := by decide +kernel
theorem dX4_natural_18 : decode cX4_natural 18 = .ok (.iload_n 0, 1) := by decide +kernel
theorem dX4_natural_19 : decode cX4_natural 19 = .ok (.i2c, 1) := by decide +kernel
theorem dX4_natural_20 : decode cX4_natural 20 = .ok (.invokevirtual 19, 3) := by decide +kernel
theorem dX4_natural_23 : decode cX4_natural 23 = .ok (.iadd, 1) := by decide +kernel
theorem dX4_natural_24 : decode cX4_natural 24 = .ok (.ireturn, 1) := by decide +kernel
theorem dX4_spelled_0 : decode cX4_spelled 0 = .ok (.iload_n 1, 1) := by decide +kernel
theorem dX4_spelled_1 : decode cX4_spelled 1 = .ok (.iconst 3, 1) := by decide +kernel
theorem dX4_spelled_2 : decode cX4_spelled 2 = .ok (.isub, 1) := by decide +kernel
theorem dX4_spelled_3 : decode cX4_spelled 3 = .ok (.iload_n 0, 1) := by decide +kernel
theorem dX4_spelled_4 : decode cX4_spelled 4 = .ok (.invokestatic 25, 3) := by decide +kernel
theorem dX4_spelled_7 : decode cX4_spelled 7 = .ok (.istore_n 3, 1) := by decide +kernel
theorem dX4_spelled_8 : decode cX4_spelled 8 = .ok (.iload_n 2, 1) := by decide +kernel
theorem dX4_spelled_9 : decode cX4_spelled 9 = .ok (.ifCond .eq 14, 3) := by decide +kernel
theorem dX4_spelled_12 : decode cX4_spelled 12 = .ok (.iload_n 3, 1) := by decide +kernel
theorem dX4_spelled_13 : decode cX4_spelled 13 = .ok (.invokestatic 28, 3) := by decide +kernel
theorem dX4_spelled_16 : decode cX4_spelled 16 = .ok (.ifCond .eq 7, 3) := by decide +kernel
theorem dX4_spelled_19 : decode cX4_spelled 19 = .ok (.iconst 1, 1) := by decide +kernel
theorem dX4_spelled_20 : decode cX4_spelled 20 = .ok (.goto 4, 3) := by decide +kernel
theorem dX4_spelled_23 : decode cX4_spelled 23 = .ok (.iconst 0, 1) := by decide +kernel
theorem dX4_spelled_24 : decode cX4_spelled 24 = .ok (.istore 4, 2) := by decide +kernel
theorem dX4_spelled_26 : decode cX4_spelled 26 = .ok (.iload 4, 2) := by decide +kernel
theorem dX4_spelled_28 : decode cX4_spelled 28 = .ok (.ifCond .eq 11, 3) := by decide +kernel
theorem dX4_spelled_31 : decode cX4_spelled 31 = .ok (.iconst (-1), 1) := by decide +kernel
theorem dX4_spelled_32 : decode cX4_spelled 32 = .ok (.iload_n 0, 1) := by decide +kernel
theorem dX4_spelled_33 : decode cX4_spelled 33 = .ok (.invokestatic 25, 3) := by decide +kernel
theorem dX4_spelled_36 : decode cX4_spelled 36 = .ok (.goto 4, 3) := by decide +kernel
theorem dX4_spelled_39 : decode cX4_spelled 39 = .ok (.iload_n 3, 1) := by decide +kernel
theorem dX4_spelled_40 : decode cX4_spelled 40 = .ok (.ireturn, 1) := by decide +kernel
theorem dX4_write_0 : decode cX4_write 0 = .ok (.aload_n 1, 1) := by decide +kernel
theorem dX4_write_1 : decode cX4_write 1 = .ok (.ldc 17, 2) := by decide +kernel
theorem dX4_write_3 : decode cX4_write 3 = .ok (.iload_n 0, 1) := by decide +kernel
theorem dX4_write_4 : decode cX4_write 4 = .ok (.iconst (-1), 1) := by decide +kernel
theorem dX4_write_5 : decode cX4_write 5 = .ok (.isub, 1) := by decide +kernel
theorem dX4_write_6 : decode cX4_write 6 = .ok (.bipush 7, 2) := by decide +kernel
theorem dX4_write_8 : decode cX4_write 8 = .ok (.invokestatic 9, 3) := by decide +kernel
theorem dX4_write_11 : decode cX4_write 11 = .ok (.invokevirtual 32, 3) := by decide +kernel
theorem dX4_write_14 : decode cX4_write 14 = .ok (.invokevirtual 36, 3) := by decide +kernel
theorem dX4_write_17 : decode cX4_write 17 = .ok (.iload_n 0, 1) := by decide +kernel
theorem dX4_write_18 : decode cX4_write 18 = .ok (.iconst (-1), 1) := by decide +kernel
theorem dX4_write_19 : decode cX4_write 19 = .ok (.isub, 1) := by decide +kernel
theorem dX4_write_20 : decode cX4_write 20 = .ok (.bipush 7, 2) := by decide +kernel
theorem dX4_write_22 : decode cX4_write 22 = .ok (.invokestatic 42, 3) := by decide +kernel
theorem dX4_write_25 : decode cX4_write 25 = .ok (.istore_n 2, 1) := by decide +kernel
theorem dX4_write_26 : decode cX4_write 26 = .ok (.iconst 0, 1) := by decide +kernel
theorem dX4_write_27 : decode cX4_write 27 = .ok (.istore_n 3, 1) := by decide +kernel
theorem dX4_write_28 : decode cX4_write 28 = .ok (.iload_n 3, 1) := by decide +kernel
theorem dX4_write_29 : decode cX4_write 29 = .ok (.iload_n 2, 1) := by decide +kernel
theorem dX4_write_30 : decode cX4_write 30 = .ok (.invokestatic 45, 3) := by decide +kernel
theorem dX4_write_33 : decode cX4_write 33 = .ok (.if_icmp .ge 24, 3) := by decide +kernel
theorem dX4_write_36 : decode cX4_write 36 = .ok (.aload_n 1, 1) := by decide +kernel
theorem dX4_write_37 : decode cX4_write 37 = .ok (.iload_n 2, 1) := by decide +kernel
theorem dX4_write_38 : decode cX4_write 38 = .ok (.ifCond .le 8, 3) := by decide +kernel
theorem dX4_write_41 : decode cX4_write 41 = .ok (.bipush 35, 2) := by decide +kernel
theorem dX4_write_43 : decode cX4_write 43 = .ok (.goto 5, 3) := by decide +kernel
theorem dX4_write_46 : decode cX4_write 46 = .ok (.bipush 98, 2) := by decide +kernel
theorem dX4_write_48 : decode cX4_write 48 = .ok (.invokevirtual 36, 3) := by decide +kernel
theorem dX4_write_51 : decode cX4_write 51 = .ok (.iinc 3 1, 3) := by decide +kernel
theorem dX4_write_54 : decode cX4_write 54 = .ok (.goto (-26), 3) := by decide +kernel
theorem dX4_write_57 : decode cX4_write 57 = .ok (.return_, 1) := by decide +kernel
theorem dX4_hasTwoAccidentals_0 : decode cX4_hasTwoAccidentals 0 = .ok (.iload_n 0, 1) := by decide +kernel
theorem dX4_hasTwoAccidentals_1 : decode cX4_hasTwoAccidentals 1 = .ok (.bipush (-8), 2) := by decide +kernel
theorem dX4_hasTwoAccidentals_3 : decode cX4_hasTwoAccidentals 3 = .ok (.if_icmp .lt 9, 3) := by decide +kernel
theorem dX4_hasTwoAccidentals_6 : decode cX4_hasTwoAccidentals 6 = .ok (.iload_n 0, 1) := by decide +kernel
theorem dX4_hasTwoAccidentals_7 : decode cX4_hasTwoAccidentals 7 = .ok (.bipush 13, 2) := by decide +kernel
theorem dX4_hasTwoAccidentals_9 : decode cX4_hasTwoAccidentals 9 = .ok (.if_icmp .lt 7, 3) := by decide +kernel
theorem dX4_hasTwoAccidentals_12 : decode cX4_hasTwoAccidentals 12 = .ok (.iconst 1, 1) := by decide +kernel
theorem dX4_hasTwoAccidentals_13 : decode cX4_hasTwoAccidentals 13 = .ok (.goto 4, 3) := by decide +kernel
theorem dX4_hasTwoAccidentals_16 : decode cX4_hasTwoAccidentals 16 = .ok (.iconst 0, 1) := by decide +kernel
theorem dX4_hasTwoAccidentals_17 : decode cX4_hasTwoAccidentals 17 = .ok (.ireturn, 1) := by decide +kernel
theorem dX5_count_0 : decode cX5_count 0 = .ok (.getstatic 68, 3) := by decide +kernel
theorem dX5_count_3 : decode cX5_count 3 = .ok (.arraylength, 1) := by decide +kernel
theorem dX5_count_4 : decode cX5_count 4 = .ok (.ireturn, 1) := by decide +kernel
theorem dX5_at_0 : decode cX5_at 0 = .ok (.iload_n 0, 1) := by decide +kernel
theorem dX5_at_1 : decode cX5_at 1 = .ok (.ifCond .lt 19, 3) := by decide +kernel
theorem dX5_at_4 : decode cX5_at 4 = .ok (.iload_n 0, 1) := by decide +kernel
theorem dX5_at_5 : decode cX5_at 5 = .ok (.getstatic 68, 3) := by decide +kernel
theorem dX5_at_8 : decode cX5_at 8 = .ok (.arraylength, 1) := by decide +kernel
theorem dX5_at_9 : decode cX5_at 9 = .ok (.if_icmp .ge 11, 3) := by decide +kernel
theorem dX5_at_12 : decode cX5_at 12 = .ok (.getstatic 68, 3) := by decide +kernel
theorem dX5_at_15 : decode cX5_at 15 = .ok (.iload_n 0, 1) := by decide +kernel
theorem dX5_at_16 : decode cX5_at 16 = .ok (.aaload, 1) := by decide +kernel
theorem dX5_at_17 : decode cX5_at 17 = .ok (.goto 6, 3) := by decide +kernel
theorem dX5_at_20 : decode cX5_at 20 = .ok (.getstatic 3, 3) := by decide +kernel
theorem dX5_at_23 : decode cX5_at 23 = .ok (.areturn, 1) := by decide +kernel
theorem dX5_isEasyOn_0 : decode cX5_isEasyOn 0 = .ok (.aload_n 0, 1) := by decide +kernel
theorem dX5_isEasyOn_1 : decode cX5_isEasyOn 1 = .ok (.getfield 61, 3) := by decide +kernel
theorem dX5_isEasyOn_4 : decode cX5_isEasyOn 4 = .ok (.iload_n 1, 1) := by decide +kernel
theorem dX5_isEasyOn_5 : decode cX5_isEasyOn 5 = .ok (.ishr, 1) := by decide +kernel
theorem dX5_isEasyOn_6 : decode cX5_isEasyOn 6 = .ok (.iconst 1, 1) := by decide +kernel
theorem dX5_isEasyOn_7 : decode cX5_isEasyOn 7 = .ok (.iand, 1) := by decide +kernel
theorem dX5_isEasyOn_8 : decode cX5_isEasyOn 8 = .ok (.iconst 1, 1) := by decide +kernel
theorem dX5_isEasyOn_9 : decode cX5_isEasyOn 9 = .ok (.if_icmp .ne 7, 3) := by decide +kernel
theorem dX5_isEasyOn_12 : decode cX5_isEasyOn 12 = .ok (.iconst 1, 1) := by decide +kernel
theorem dX5_isEasyOn_13 : decode cX5_isEasyOn 13 = .ok (.goto 4, 3) := by decide +kernel
theorem dX5_isEasyOn_16 : decode cX5_isEasyOn 16 = .ok (.iconst 0, 1) := by decide +kernel
theorem dX5_isEasyOn_17 : decode cX5_isEasyOn 17 = .ok (.ireturn, 1) := by decide +kernel
theorem dX5_tonesOn_0 : decode cX5_tonesOn 0 = .ok (.aload_n 0, 1) := by decide +kernel
theorem dX5_tonesOn_1 : decode cX5_tonesOn 1 = .ok (.getfield 57, 3) := by decide +kernel
theorem dX5_tonesOn_4 : decode cX5_tonesOn 4 = .ok (.iload_n 1, 1) := by decide +kernel
theorem dX5_tonesOn_5 : decode cX5_tonesOn 5 = .ok (.invokestatic 71, 3) := by decide +kernel
theorem dX5_tonesOn_8 : decode cX5_tonesOn 8 = .ok (.ireturn, 1) := by decide +kernel
theorem dX6_init_0 : decode cX6_init 0 = .ok (.aload_n 0, 1) := by decide +kernel
theorem dX6_init_1 : decode cX6_init 1 = .ok (.invokespecial 3, 3) := by decide +kernel
theorem dX6_init_4 : decode cX6_init 4 = .ok (.aload_n 0, 1) := by decide +kernel
theorem dX6_init_5 : decode cX6_init 5 = .ok (.aload_n 1, 1) := by decide +kernel
theorem dX6_init_6 : decode cX6_init 6 = .ok (.putfield 9, 3) := by decide +kernel
theorem dX6_init_9 : decode cX6_init 9 = .ok (.return_, 1) := by decide +kernel
theorem dX6_root_0 : decode cX6_root 0 = .ok (.aload_n 0, 1) := by decide +kernel
theorem dX6_root_1 : decode cX6_root 1 = .ok (.getfield 15, 3) := by decide +kernel
theorem dX6_root_4 : decode cX6_root 4 = .ok (.ireturn, 1) := by decide +kernel
theorem dX6_quality_0 : decode cX6_quality 0 = .ok (.aload_n 0, 1) := by decide +kernel
theorem dX6_quality_1 : decode cX6_quality 1 = .ok (.getfield 19, 3) := by decide +kernel
theorem dX6_quality_4 : decode cX6_quality 4 = .ok (.ireturn, 1) := by decide +kernel
theorem dX6_bass_0 : decode cX6_bass 0 = .ok (.aload_n 0, 1) := by decide +kernel
theorem dX6_bass_1 : decode cX6_bass 1 = .ok (.getfield 22, 3) := by decide +kernel
theorem dX6_bass_4 : decode cX6_bass 4 = .ok (.ireturn, 1) := by decide +kernel
theorem dX6_readSheet_0 : decode cX6_readSheet 0 = .ok (.aload_n 1, 1) := by decide +kernel
theorem dX6_readSheet_1 : decode cX6_readSheet 1 = .ok (.invokevirtual 25, 3) := by decide +kernel
theorem dX6_readSheet_4 : decode cX6_readSheet 4 = .ok (.iconst 0, 1) := by decide +kernel
theorem dX6_readSheet_5 : decode cX6_readSheet 5 = .ok (.istore_n 2, 1) := by decide +kernel
theorem dX6_readSheet_6 : decode cX6_readSheet 6 = .ok (.iload_n 2, 1) := by decide +kernel
theorem dX6_readSheet_7 : decode cX6_readSheet 7 = .ok (.aload_n 0, 1) := by decide +kernel
theorem dX6_readSheet_8 : decode cX6_readSheet 8 = .ok (.getfield 9, 3) := by decide +kernel
theorem dX6_readSheet_11 : decode cX6_readSheet 11 = .ok (.invokevirtual 30, 3) := by decide +kernel
theorem dX6_readSheet_14 : decode cX6_readSheet 14 = .ok (.if_icmp .ge 129, 3) := by decide +kernel
theorem dX6_readSheet_17 : decode cX6_readSheet 17 = .ok (.aload_n 0, 1) := by decide +kernel
theorem dX6_readSheet_18 : decode cX6_readSheet 18 = .ok (.getfield 9, 3) := by decide +kernel
theorem dX6_readSheet_21 : decode cX6_readSheet 21 = .ok (.iload_n 2, 1) := by decide +kernel
theorem dX6_readSheet_22 : decode cX6_readSheet 22 = .ok (.invokevirtual 36, 3) := by decide +kernel
theorem dX6_readSheet_25 : decode cX6_readSheet 25 = .ok (.istore_n 3, 1) := by decide +kernel
theorem dX6_readSheet_26 : decode cX6_readSheet 26 = .ok (.iload_n 3, 1) := by decide +kernel
theorem dX6_readSheet_27 : decode cX6_readSheet 27 = .ok (.bipush 93, 2) := by decide +kernel
theorem dX6_readSheet_29 : decode cX6_readSheet 29 = .ok (.if_icmp .eq 18, 3) := by decide +kernel
theorem dX6_readSheet_32 : decode cX6_readSheet 32 = .ok (.iload_n 3, 1) := by decide +kernel
theorem dX6_readSheet_33 : decode cX6_readSheet 33 = .ok (.bipush 91, 2) := by decide +kernel
theorem dX6_readSheet_35 : decode cX6_readSheet 35 = .ok (.if_icmp .ne 14, 3) := by decide +kernel
theorem dX6_readSheet_38 : decode cX6_readSheet 38 = .ok (.aload_n 1, 1) := by decide +kernel
theorem dX6_readSheet_39 : decode cX6_readSheet 39 = .ok (.invokevirtual 40, 3) := by decide +kernel
theorem dX6_readSheet_42 : decode cX6_readSheet 42 = .ok (.bipush 40, 2) := by decide +kernel
theorem dX6_readSheet_44 : decode cX6_readSheet 44 = .ok (.if_icmp .lt 5, 3) := by decide +kernel
theorem dX6_readSheet_47 : decode cX6_readSheet 47 = .ok (.iload_n 2, 1) := by decide +kernel
theorem dX6_readSheet_48 : decode cX6_readSheet 48 = .ok (.ireturn, 1) := by decide +kernel
theorem dX6_readSheet_49 : decode cX6_readSheet 49 = .ok (.iload_n 3, 1) := by decide +kernel
theorem dX6_readSheet_50 : decode cX6_readSheet 50 = .ok (.bipush 91, 2) := by decide +kernel
theorem dX6_readSheet_52 : decode cX6_readSheet 52 = .ok (.if_icmp .ne 66, 3) := by decide +kernel
theorem dX6_readSheet_55 : decode cX6_readSheet 55 = .ok (.aload_n 0, 1) := by decide +kernel
theorem dX6_readSheet_56 : decode cX6_readSheet 56 = .ok (.iload_n 2, 1) := by decide +kernel
theorem dX6_readSheet_57 : decode cX6_readSheet 57 = .ok (.iconst 1, 1) := by decide +kernel
theorem dX6_readSheet_58 : decode cX6_readSheet 58 = .ok (.iadd, 1) := by decide +kernel
theorem dX6_readSheet_59 : decode cX6_readSheet 59 = .ok (.invokevirtual 43, 3) := by decide +kernel
theorem dX6_readSheet_62 : decode cX6_readSheet 62 = .ok (.aload_n 0, 1) := by decide +kernel
theorem dX6_readSheet_63 : decode cX6_readSheet 63 = .ok (.getfield 47, 3) := by decide +kernel
theorem dX6_readSheet_66 : decode cX6_readSheet 66 = .ok (.ifCond .eq 19, 3) := by decide +kernel
theorem dX6_readSheet_69 : decode cX6_readSheet 69 = .ok (.aload_n 0, 1) := by decide +kernel
theorem dX6_readSheet_70 : decode cX6_readSheet 70 = .ok (.getfield 9, 3) := by decide +kernel
theorem dX6_readSheet_73 : decode cX6_readSheet 73 = .ok (.aload_n 0, 1) := by decide +kernel
theorem dX6_readSheet_74 : decode cX6_readSheet 74 = .ok (.getfield 51, 3) := by decide +kernel
theorem dX6_readSheet_77 : decode cX6_readSheet 77 = .ok (.invokevirtual 36, 3) := by decide +kernel
theorem dX6_readSheet_80 : decode cX6_readSheet 80 = .ok (.bipush 93, 2) := by decide +kernel
theorem dX6_readSheet_82 : decode cX6_readSheet 82 = .ok (.if_icmp .eq 8, 3) := by decide +kernel
theorem dX6_readSheet_85 : decode cX6_readSheet 85 = .ok (.aload_n 0, 1) := by decide +kernel
theorem dX6_readSheet_86 : decode cX6_readSheet 86 = .ok (.getfield 51, 3) := by decide +kernel
theorem dX6_readSheet_89 : decode cX6_readSheet 89 = .ok (.ireturn, 1) := by decide +kernel
theorem dX6_readSheet_90 : decode cX6_readSheet 90 = .ok (.aload_n 1, 1) := by decide +kernel
theorem dX6_readSheet_91 : decode cX6_readSheet 91 = .ok (.aload_n 0, 1) := by decide +kernel
theorem dX6_readSheet_92 : decode cX6_readSheet 92 = .ok (.getfield 15, 3) := by decide +kernel
theorem dX6_readSheet_95 : decode cX6_readSheet 95 = .ok (.aload_n 0, 1) := by decide +kernel
theorem dX6_readSheet_96 : decode cX6_readSheet 96 = .ok (.getfield 19, 3) := by decide +kernel
theorem dX6_readSheet_99 : decode cX6_readSheet 99 = .ok (.aload_n 0, 1) := by decide +kernel
theorem dX6_readSheet_100 : decode cX6_readSheet 100 = .ok (.getfield 22, 3) := by decide +kernel
theorem dX6_readSheet_103 : decode cX6_readSheet 103 = .ok (.invokevirtual 54, 3) := by decide +kernel
theorem dX6_readSheet_106 : decode cX6_readSheet 106 = .ok (.iload_n 2, 1) := by decide +kernel
theorem dX6_readSheet_107 : decode cX6_readSheet 107 = .ok (.aload_n 0, 1) := by decide +kernel
theorem dX6_readSheet_108 : decode cX6_readSheet 108 = .ok (.getfield 51, 3) := by decide +kernel
theorem dX6_readSheet_111 : decode cX6_readSheet 111 = .ok (.invokestatic 58, 3) := by decide +kernel
theorem dX6_readSheet_114 : decode cX6_readSheet 114 = .ok (.istore_n 2, 1) := by decide +kernel
theorem dX6_readSheet_115 : decode cX6_readSheet 115 = .ok (.goto 22, 3) := by decide +kernel
theorem dX6_readSheet_118 : decode cX6_readSheet 118 = .ok (.iload_n 3, 1) := by decide +kernel
theorem dX6_readSheet_119 : decode cX6_readSheet 119 = .ok (.bipush 47, 2) := by decide +kernel
theorem dX6_readSheet_121 : decode cX6_readSheet 121 = .ok (.if_icmp .ne 10, 3) := by decide +kernel
theorem dX6_readSheet_124 : decode cX6_readSheet 124 = .ok (.aload_n 1, 1) := by decide +kernel
theorem dX6_readSheet_125 : decode cX6_readSheet 125 = .ok (.invokevirtual 64, 3) := by decide +kernel
theorem dX6_readSheet_128 : decode cX6_readSheet 128 = .ok (.goto 9, 3) := by decide +kernel
theorem dX6_readSheet_131 : decode cX6_readSheet 131 = .ok (.aload_n 1, 1) := by decide +kernel
theorem dX6_readSheet_132 : decode cX6_readSheet 132 = .ok (.iload_n 3, 1) := by decide +kernel
theorem dX6_readSheet_133 : decode cX6_readSheet 133 = .ok (.i2c, 1) := by decide +kernel
theorem dX6_readSheet_134 : decode cX6_readSheet 134 = .ok (.invokevirtual 67, 3) := by decide +kernel
theorem dX6_readSheet_137 : decode cX6_readSheet 137 = .ok (.iinc 2 1, 3) := by decide +kernel
theorem dX6_readSheet_140 : decode cX6_readSheet 140 = .ok (.goto (-134), 3) := by decide +kernel
theorem dX6_readSheet_143 : decode cX6_readSheet 143 = .ok (.iconst (-1), 1) := by decide +kernel
theorem dX6_readSheet_144 : decode cX6_readSheet 144 = .ok (.ireturn, 1) := by decide +kernel
theorem dX6_readSingleChord_0 : decode cX6_readSingleChord 0 = .ok (.aload_n 0, 1) := by decide +kernel
theorem dX6_readSingleChord_1 : decode cX6_readSingleChord 1 = .ok (.iconst 0, 1) := by decide +kernel
theorem dX6_readSingleChord_2 : decode cX6_readSingleChord 2 = .ok (.invokevirtual 43, 3) := by decide +kernel
theorem dX6_readSingleChord_5 : decode cX6_readSingleChord 5 = .ok (.aload_n 0, 1) := by decide +kernel
theorem dX6_readSingleChord_6 : decode cX6_readSingleChord 6 = .ok (.getfield 47, 3) := by decide +kernel
theorem dX6_readSingleChord_9 : decode cX6_readSingleChord 9 = .ok (.ifCond .eq 21, 3) := by decide +kernel
theorem dX6_readSingleChord_12 : decode cX6_readSingleChord 12 = .ok (.aload_n 0, 1) := by decide +kernel
theorem dX6_readSingleChord_13 : decode cX6_readSingleChord 13 = .ok (.getfield 51, 3) := by decide +kernel
theorem dX6_readSingleChord_16 : decode cX6_readSingleChord 16 = .ok (.aload_n 0, 1) := by decide +kernel
theorem dX6_readSingleChord_17 : decode cX6_readSingleChord 17 = .ok (.getfield 9, 3) := by decide +kernel
theorem dX6_readSingleChord_20 : decode cX6_readSingleChord 20 = .ok (.invokevirtual 30, 3) := by decide +kernel
theorem dX6_readSingleChord_23 : decode cX6_readSingleChord 23 = .ok (.if_icmp .ne 7, 3) := by decide +kernel
theorem dX6_readSingleChord_26 : decode cX6_readSingleChord 26 = .ok (.iconst (-1), 1) := by decide +kernel
theorem dX6_readSingleChord_27 : decode cX6_readSingleChord 27 = .ok (.goto 7, 3) := by decide +kernel
theorem dX6_readSingleChord_30 : decode cX6_readSingleChord 30 = .ok (.aload_n 0, 1) := by decide +kernel
theorem dX6_readSingleChord_31 : decode cX6_readSingleChord 31 = .ok (.getfield 51, 3) := by decide +kernel
theorem dX6_readSingleChord_34 : decode cX6_readSingleChord 34 = .ok (.ireturn, 1) := by decide +kernel
theorem dX6_readChord_0 : decode cX6_readChord 0 = .ok (.aload_n 0, 1) := by decide +kernel
theorem dX6_readChord_1 : decode cX6_readChord 1 = .ok (.iload_n 1, 1) := by decide +kernel
theorem dX6_readChord_2 : decode cX6_readChord 2 = .ok (.putfield 51, 3) := by decide +kernel
theorem dX6_readChord_5 : decode cX6_readChord 5 = .ok (.aload_n 0, 1) := by decide +kernel
theorem dX6_readChord_6 : decode cX6_readChord 6 = .ok (.bipush 100, 2) := by decide +kernel
theorem dX6_readChord_8 : decode cX6_readChord 8 = .ok (.putfield 22, 3) := by decide +kernel
theorem dX6_readChord_11 : decode cX6_readChord 11 = .ok (.aload_n 0, 1) := by decide +kernel
theorem dX6_readChord_12 : decode cX6_readChord 12 = .ok (.aload_n 0, 1) := by decide +kernel
theorem dX6_readChord_13 : decode cX6_readChord 13 = .ok (.invokevirtual 71, 3) := by decide +kernel
theorem dX6_readChord_16 : decode cX6_readChord 16 = .ok (.putfield 15, 3) := by decide +kernel
theorem dX6_readChord_19 : decode cX6_readChord 19 = .ok (.aload_n 0, 1) := by decide +kernel
theorem dX6_readChord_20 : decode cX6_readChord 20 = .ok (.aload_n 0, 1) := by decide +kernel
theorem dX6_readChord_21 : decode cX6_readChord 21 = .ok (.getfield 15, 3) := by decide +kernel
theorem dX6_readChord_24 : decode cX6_readChord 24 = .ok (.bipush 100, 2) := by decide +kernel
theorem dX6_readChord_26 : decode cX6_readChord 26 = .ok (.if_icmp .eq 14, 3) := by decide +kernel
theorem dX6_readChord_29 : decode cX6_readChord 29 = .ok (.aload_n 0, 1) := by decide +kernel
theorem dX6_readChord_30 : decode cX6_readChord 30 = .ok (.invokevirtual 74, 3) := by decide +kernel
theorem dX6_readChord_33 : decode cX6_readChord 33 = .ok (.ifCond .eq 7, 3) := by decide +kernel
theorem dX6_readChord_36 : decode cX6_readChord 36 = .ok (.iconst 1, 1) := by decide +kernel
theorem dX6_readChord_37 : decode cX6_readChord 37 = .ok (.goto 4, 3) := by decide +kernel
theorem dX6_readChord_40 : decode cX6_readChord 40 = .ok (.iconst 0, 1) := by decide +kernel
theorem dX6_readChord_41 : decode cX6_readChord 41 = .ok (.putfield 47, 3) := by decide +kernel
theorem dX6_readChord_44 : decode cX6_readChord 44 = .ok (.aload_n 0, 1) := by decide +kernel
theorem dX6_readChord_45 : decode cX6_readChord 45 = .ok (.getfield 47, 3) := by decide +kernel
theorem dX6_readChord_48 : decode cX6_readChord 48 = .ok (.ifCond .eq 55, 3) := by decide +kernel
theorem dX6_readChord_51 : decode cX6_readChord 51 = .ok (.aload_n 0, 1) := by decide +kernel
theorem dX6_readChord_52 : decode cX6_readChord 52 = .ok (.getfield 9, 3) := by decide +kernel
theorem dX6_readChord_55 : decode cX6_readChord 55 = .ok (.aload_n 0, 1) := by decide +kernel
theorem dX6_readChord_56 : decode cX6_readChord 56 = .ok (.getfield 51, 3) := by decide +kernel
theorem dX6_readChord_59 : decode cX6_readChord 59 = .ok (.invokevirtual 36, 3) := by decide +kernel
theorem dX6_readChord_62 : decode cX6_readChord 62 = .ok (.bipush 47, 2) := by decide +kernel
theorem dX6_readChord_64 : decode cX6_readChord 64 = .ok (.if_icmp .ne 39, 3) := by decide +kernel
theorem dX6_readChord_67 : decode cX6_readChord 67 = .ok (.aload_n 0, 1) := by decide +kernel
theorem dX6_readChord_68 : decode cX6_readChord 68 = .ok (.dup, 1) := by decide +kernel
theorem dX6_readChord_69 : decode cX6_readChord 69 = .ok (.getfield 51, 3) := by decide +kernel
theorem dX6_readChord_72 : decode cX6_readChord 72 = .ok (.iconst 1, 1) := by decide +kernel
theorem dX6_readChord_73 : decode cX6_readChord 73 = .ok (.iadd, 1) := by decide +kernel
theorem dX6_readChord_74 : decode cX6_readChord 74 = .ok (.putfield 51, 3) := by decide +kernel
theorem dX6_readChord_77 : decode cX6_readChord 77 = .ok (.aload_n 0, 1) := by decide +kernel
theorem dX6_readChord_78 : decode cX6_readChord 78 = .ok (.aload_n 0, 1) := by decide +kernel
theorem dX6_readChord_79 : decode cX6_readChord 79 = .ok (.invokevirtual 71, 3) := by decide +kernel
theorem dX6_readChord_82 : decode cX6_readChord 82 = .ok (.putfield 22, 3) := by decide +kernel
theorem dX6_readChord_85 : decode cX6_readChord 85 = .ok (.aload_n 0, 1) := by decide +kernel
theorem dX6_readChord_86 : decode cX6_readChord 86 = .ok (.aload_n 0, 1) := by decide +kernel
theorem dX6_readChord_87 : decode cX6_readChord 87 = .ok (.getfield 22, 3) := by decide +kernel
theorem dX6_readChord_90 : decode cX6_readChord 90 = .ok (.bipush 100, 2) := by decide +kernel
theorem dX6_readChord_92 : decode cX6_readChord 92 = .ok (.if_icmp .eq 7, 3) := by decide +kernel
theorem dX6_readChord_95 : decode cX6_readChord 95 = .ok (.iconst 1, 1) := by decide +kernel
theorem dX6_readChord_96 : decode cX6_readChord 96 = .ok (.goto 4, 3) := by decide +kernel
theorem dX6_readChord_99 : decode cX6_readChord 99 = .ok (.iconst 0, 1) := by decide +kernel
theorem dX6_readChord_100 : decode cX6_readChord 100 = .ok (.putfield 47, 3) := by decide +kernel
theorem dX6_readChord_103 : decode cX6_readChord 103 = .ok (.return_, 1) := by decide +kernel
theorem dX6_readNote_0 : decode cX6_readNote 0 = .ok (.aload_n 0, 1) := by decide +kernel
theorem dX6_readNote_1 : decode cX6_readNote 1 = .ok (.getfield 9, 3) := by decide +kernel
theorem dX6_readNote_4 : decode cX6_readNote 4 = .ok (.aload_n 0, 1) := by decide +kernel
theorem dX6_readNote_5 : decode cX6_readNote 5 = .ok (.getfield 51, 3) := by decide +kernel
theorem dX6_readNote_8 : decode cX6_readNote 8 = .ok (.invokevirtual 36, 3) := by decide +kernel
theorem dX6_readNote_11 : decode cX6_readNote 11 = .ok (.invokestatic 78, 3) := by decide +kernel
theorem dX6_readNote_14 : decode cX6_readNote 14 = .ok (.istore_n 1, 1) := by decide +kernel
theorem dX6_readNote_15 : decode cX6_readNote 15 = .ok (.iload_n 1, 1) := by decide +kernel
theorem dX6_readNote_16 : decode cX6_readNote 16 = .ok (.bipush 100, 2) := by decide +kernel
theorem dX6_readNote_18 : decode cX6_readNote 18 = .ok (.if_icmp .ne 6, 3) := by decide +kernel
theorem dX6_readNote_21 : decode cX6_readNote 21 = .ok (.bipush 100, 2) := by decide +kernel
theorem dX6_readNote_23 : decode cX6_readNote 23 = .ok (.ireturn, 1) := by decide +kernel
theorem dX6_readNote_24 : decode cX6_readNote 24 = .ok (.aload_n 0, 1) := by decide +kernel
theorem dX6_readNote_25 : decode cX6_readNote 25 = .ok (.dup, 1) := by decide +kernel
theorem dX6_readNote_26 : decode cX6_readNote 26 = .ok (.getfield 51, 3) := by decide +kernel
theorem dX6_readNote_29 : decode cX6_readNote 29 = .ok (.iconst 1, 1) := by decide +kernel
theorem dX6_readNote_30 : decode cX6_readNote 30 = .ok (.iadd, 1) := by decide +kernel
theorem dX6_readNote_31 : decode cX6_readNote 31 = .ok (.putfield 51, 3) := by decide +kernel
theorem dX6_readNote_34 : decode cX6_readNote 34 = .ok (.aload_n 0, 1) := by decide +kernel
theorem dX6_readNote_35 : decode cX6_readNote 35 = .ok (.getfield 9, 3) := by decide +kernel
theorem dX6_readNote_38 : decode cX6_readNote 38 = .ok (.aload_n 0, 1) := by decide +kernel
theorem dX6_readNote_39 : decode cX6_readNote 39 = .ok (.getfield 51, 3) := by decide +kernel
theorem dX6_readNote_42 : decode cX6_readNote 42 = .ok (.invokevirtual 36, 3) := by decide +kernel
theorem dX6_readNote_45 : decode cX6_readNote 45 = .ok (.istore_n 2, 1) := by decide +kernel
theorem dX6_readNote_46 : decode cX6_readNote 46 = .ok (.iload_n 2, 1) := by decide +kernel
theorem dX6_readNote_47 : decode cX6_readNote 47 = .ok (.bipush 35, 2) := by decide +kernel
theorem dX6_readNote_49 : decode cX6_readNote 49 = .ok (.if_icmp .eq 11, 3) := by decide +kernel
theorem dX6_readNote_52 : decode cX6_readNote 52 = .ok (.iload_n 2, 1) := by decide +kernel
theorem dX6_readNote_53 : decode cX6_readNote 53 = .ok (.bipush 98, 2) := by decide +kernel
theorem dX6_readNote_55 : decode cX6_readNote 55 = .ok (.if_icmp .eq 5, 3) := by decide +kernel
theorem dX6_readNote_58 : decode cX6_readNote 58 = .ok (.iload_n 1, 1) := by decide +kernel
theorem dX6_readNote_59 : decode cX6_readNote 59 = .ok (.ireturn, 1) := by decide +kernel
theorem dX6_readNote_60 : decode cX6_readNote 60 = .ok (.aload_n 0, 1) := by decide +kernel
theorem dX6_readNote_61 : decode cX6_readNote 61 = .ok (.dup, 1) := by decide +kernel
theorem dX6_readNote_62 : decode cX6_readNote 62 = .ok (.getfield 51, 3) := by decide +kernel
theorem dX6_readNote_65 : decode cX6_readNote 65 = .ok (.iconst 1, 1) := by decide +kernel
theorem dX6_readNote_66 : decode cX6_readNote 66 = .ok (.iadd, 1) := by decide +kernel
theorem dX6_readNote_67 : decode cX6_readNote 67 = .ok (.putfield 51, 3) := by decide +kernel
theorem dX6_readNote_70 : decode cX6_readNote 70 = .ok (.iload_n 2, 1) := by decide +kernel
theorem dX6_readNote_71 : decode cX6_readNote 71 = .ok (.bipush 35, 2) := by decide +kernel
theorem dX6_readNote_73 : decode cX6_readNote 73 = .ok (.if_icmp .ne 10, 3) := by decide +kernel
theorem dX6_readNote_76 : decode cX6_readNote 76 = .ok (.iload_n 1, 1) := by decide +kernel
theorem dX6_readNote_77 : decode cX6_readNote 77 = .ok (.bipush 7, 2) := by decide +kernel
theorem dX6_readNote_79 : decode cX6_readNote 79 = .ok (.iadd, 1) := by decide +kernel
theorem dX6_readNote_80 : decode cX6_readNote 80 = .ok (.goto 7, 3) := by decide +kernel
theorem dX6_readNote_83 : decode cX6_readNote 83 = .ok (.iload_n 1, 1) := by decide +kernel
theorem dX6_readNote_84 : decode cX6_readNote 84 = .ok (.bipush 7, 2) := by decide +kernel
theorem dX6_readNote_86 : decode cX6_readNote 86 = .ok (.isub, 1) := by decide +kernel
theorem dX6_readNote_87 : decode cX6_readNote 87 = .ok (.ireturn, 1) := by decide +kernel
theorem dX6_readQuality_0 : decode cX6_readQuality 0 = .ok (.iconst (-1), 1) := by decide +kernel
theorem dX6_readQuality_1 : decode cX6_readQuality 1 = .ok (.istore_n 1, 1) := by decide +kernel
theorem dX6_readQuality_2 : decode cX6_readQuality 2 = .ok (.iconst 0, 1) := by decide +kernel
theorem dX6_readQuality_3 : decode cX6_readQuality 3 = .ok (.istore_n 2, 1) := by decide +kernel
theorem dX6_readQuality_4 : decode cX6_readQuality 4 = .ok (.iconst 0, 1) := by decide +kernel
theorem dX6_readQuality_5 : decode cX6_readQuality 5 = .ok (.istore_n 3, 1) := by decide +kernel
theorem dX6_readQuality_6 : decode cX6_readQuality 6 = .ok (.iload_n 3, 1) := by decide +kernel
theorem dX6_readQuality_7 : decode cX6_readQuality 7 = .ok (.invokestatic 83, 3) := by decide +kernel
theorem dX6_readQuality_10 : decode cX6_readQuality 10 = .ok (.if_icmp .ge 60, 3) := by decide +kernel
theorem dX6_readQuality_13 : decode cX6_readQuality 13 = .ok (.iload_n 3, 1) := by decide +kernel
theorem dX6_readQuality_14 : decode cX6_readQuality 14 = .ok (.invokestatic 88, 3) := by decide +kernel
theorem dX6_readQuality_17 : decode cX6_readQuality 17 = .ok (.getfield 91, 3) := by decide +kernel
theorem dX6_readQuality_20 : decode cX6_readQuality 20 = .ok (.astore 4, 2) := by decide +kernel
theorem dX6_readQuality_22 : decode cX6_readQuality 22 = .ok (.aload_n 0, 1) := by decide +kernel
theorem dX6_readQuality_23 : decode cX6_readQuality 23 = .ok (.aload 4, 2) := by decide +kernel
theorem dX6_readQuality_25 : decode cX6_readQuality 25 = .ok (.invokevirtual 95, 3) := by decide +kernel
theorem dX6_readQuality_28 : decode cX6_readQuality 28 = .ok (.istore 5, 2) := by decide +kernel
theorem dX6_readQuality_30 : decode cX6_readQuality 30 = .ok (.iload 5, 2) := by decide +kernel
theorem dX6_readQuality_32 : decode cX6_readQuality 32 = .ok (.iload_n 1, 1) := by decide +kernel
theorem dX6_readQuality_33 : decode cX6_readQuality 33 = .ok (.if_icmp .le 8, 3) := by decide +kernel
theorem dX6_readQuality_36 : decode cX6_readQuality 36 = .ok (.iload 5, 2) := by decide +kernel
theorem dX6_readQuality_38 : decode cX6_readQuality 38 = .ok (.istore_n 1, 1) := by decide +kernel
theorem dX6_readQuality_39 : decode cX6_readQuality 39 = .ok (.iconst 0, 1) := by decide +kernel
theorem dX6_readQuality_40 : decode cX6_readQuality 40 = .ok (.istore_n 2, 1) := by decide +kernel
theorem dX6_readQuality_41 : decode cX6_readQuality 41 = .ok (.iload 5, 2) := by decide +kernel
theorem dX6_readQuality_43 : decode cX6_readQuality 43 = .ok (.iload_n 1, 1) := by decide +kernel
theorem dX6_readQuality_44 : decode cX6_readQuality 44 = .ok (.if_icmp .ne 20, 3) := by decide +kernel
theorem dX6_readQuality_47 : decode cX6_readQuality 47 = .ok (.iload 5, 2) := by decide +kernel
theorem dX6_readQuality_49 : decode cX6_readQuality 49 = .ok (.aload 4, 2) := by decide +kernel
theorem dX6_readQuality_51 : decode cX6_readQuality 51 = .ok (.invokevirtual 99, 3) := by decide +kernel
theorem dX6_readQuality_54 : decode cX6_readQuality 54 = .ok (.if_icmp .ne 10, 3) := by decide +kernel
theorem dX6_readQuality_57 : decode cX6_readQuality 57 = .ok (.aload_n 0, 1) := by decide +kernel
theorem dX6_readQuality_58 : decode cX6_readQuality 58 = .ok (.iload_n 3, 1) := by decide +kernel
theorem dX6_readQuality_59 : decode cX6_readQuality 59 = .ok (.putfield 19, 3) := by decide +kernel
theorem dX6_readQuality_62 : decode cX6_readQuality 62 = .ok (.iconst 1, 1) := by decide +kernel
theorem dX6_readQuality_63 : decode cX6_readQuality 63 = .ok (.istore_n 2, 1) := by decide +kernel
theorem dX6_readQuality_64 : decode cX6_readQuality 64 = .ok (.iinc 3 1, 3) := by decide +kernel
theorem dX6_readQuality_67 : decode cX6_readQuality 67 = .ok (.goto (-61), 3) := by decide +kernel
theorem dX6_readQuality_70 : decode cX6_readQuality 70 = .ok (.aload_n 0, 1) := by decide +kernel
theorem dX6_readQuality_71 : decode cX6_readQuality 71 = .ok (.dup, 1) := by decide +kernel
theorem dX6_readQuality_72 : decode cX6_readQuality 72 = .ok (.getfield 51, 3) := by decide +kernel
theorem dX6_readQuality_75 : decode cX6_readQuality 75 = .ok (.iload_n 1, 1) := by decide +kernel
theorem dX6_readQuality_76 : decode cX6_readQuality 76 = .ok (.iadd, 1) := by decide +kernel
theorem dX6_readQuality_77 : decode cX6_readQuality 77 = .ok (.putfield 51, 3) := by decide +kernel
theorem dX6_readQuality_80 : decode cX6_readQuality 80 = .ok (.iload_n 2, 1) := by decide +kernel
theorem dX6_readQuality_81 : decode cX6_readQuality 81 = .ok (.ireturn, 1) := by decide +kernel
theorem dX6_sharedLength_0 : decode cX6_sharedLength 0 = .ok (.iconst 0, 1) := by decide +kernel
theorem dX6_sharedLength_1 : decode cX6_sharedLength 1 = .ok (.istore_n 2, 1) := by decide +kernel
theorem dX6_sharedLength_2 : decode cX6_sharedLength 2 = .ok (.iload_n 2, 1) := by decide +kernel
theorem dX6_sharedLength_3 : decode cX6_sharedLength 3 = .ok (.aload_n 1, 1) := by decide +kernel
theorem dX6_sharedLength_4 : decode cX6_sharedLength 4 = .ok (.invokevirtual 99, 3) := by decide +kernel
theorem dX6_sharedLength_7 : decode cX6_sharedLength 7 = .ok (.if_icmp .ge 30, 3) := by decide +kernel
theorem dX6_sharedLength_10 : decode cX6_sharedLength 10 = .ok (.aload_n 0, 1) := by decide +kernel
theorem dX6_sharedLength_11 : decode cX6_sharedLength 11 = .ok (.getfield 9, 3) := by decide +kernel
theorem dX6_sharedLength_14 : decode cX6_sharedLength 14 = .ok (.aload_n 0, 1) := by decide +kernel
theorem dX6_sharedLength_15 : decode cX6_sharedLength 15 = .ok (.getfield 51, 3) := by decide +kernel
theorem dX6_sharedLength_18 : decode cX6_sharedLength 18 = .ok (.iload_n 2, 1) := by decide +kernel
theorem dX6_sharedLength_19 : decode cX6_sharedLength 19 = .ok (.iadd, 1) := by decide +kernel
theorem dX6_sharedLength_20 : decode cX6_sharedLength 20 = .ok (.invokevirtual 36, 3) := by decide +kernel
theorem dX6_sharedLength_23 : decode cX6_sharedLength 23 = .ok (.aload_n 1, 1) := by decide +kernel
theorem dX6_sharedLength_24 : decode cX6_sharedLength 24 = .ok (.iload_n 2, 1) := by decide +kernel
theorem dX6_sharedLength_25 : decode cX6_sharedLength 25 = .ok (.invokevirtual 104, 3) := by decide +kernel
theorem dX6_sharedLength_28 : decode cX6_sharedLength 28 = .ok (.if_icmp .ne 9, 3) := by decide +kernel
theorem dX6_sharedLength_31 : decode cX6_sharedLength 31 = .ok (.iinc 2 1, 3) := by decide +kernel
theorem dX6_sharedLength_34 : decode cX6_sharedLength 34 = .ok (.goto (-32), 3) := by decide +kernel
theorem dX6_sharedLength_37 : decode cX6_sharedLength 37 = .ok (.iload_n 2, 1) := by decide +kernel
theorem dX6_sharedLength_38 : decode cX6_sharedLength 38 = .ok (.ireturn, 1) := by decide +kernel
theorem dX7_init_0 : decode cX7_init 0 = .ok (.aload_n 0, 1) := by decide +kernel
theorem dX7_init_1 : decode cX7_init 1 = .ok (.invokespecial 3, 3) := by decide +kernel
theorem dX7_init_4 : decode cX7_init 4 = .ok (.aload_n 0, 1) := by decide +kernel
theorem dX7_init_5 : decode cX7_init 5 = .ok (.sipush 680, 3) := by decide +kernel
theorem dX7_init_8 : decode cX7_init 8 = .ok (.newarray .char, 2) := by decide +kernel
theorem dX7_init_10 : decode cX7_init 10 = .ok (.putfield 11, 3) := by decide +kernel
theorem dX7_init_13 : decode cX7_init 13 = .ok (.return_, 1) := by decide +kernel
theorem dX7_size_0 : decode cX7_size 0 = .ok (.aload_n 0, 1) := by decide +kernel
theorem dX7_size_1 : decode cX7_size 1 = .ok (.getfield 15, 3) := by decide +kernel
theorem dX7_size_4 : decode cX7_size 4 = .ok (.ireturn, 1) := by decide +kernel
theorem dX7_at_0 : decode cX7_at 0 = .ok (.iload_n 1, 1) := by decide +kernel
theorem dX7_at_1 : decode cX7_at 1 = .ok (.ifCond .lt 29, 3) := by decide +kernel
theorem dX7_at_4 : decode cX7_at 4 = .ok (.iload_n 1, 1) := by decide +kernel
theorem dX7_at_5 : decode cX7_at 5 = .ok (.aload_n 0, 1) := by decide +kernel
theorem dX7_at_6 : decode cX7_at 6 = .ok (.getfield 15, 3) := by decide +kernel
theorem dX7_at_9 : decode cX7_at 9 = .ok (.if_icmp .ge 21, 3) := by decide +kernel
theorem dX7_at_12 : decode cX7_at 12 = .ok (.iload_n 1, 1) := by decide +kernel
theorem dX7_at_13 : decode cX7_at 13 = .ok (.aload_n 0, 1) := by decide +kernel
theorem dX7_at_14 : decode cX7_at 14 = .ok (.getfield 11, 3) := by decide +kernel
theorem dX7_at_17 : decode cX7_at 17 = .ok (.arraylength, 1) := by decide +kernel
theorem dX7_at_18 : decode cX7_at 18 = .ok (.if_icmp .ge 12, 3) := by decide +kernel
theorem dX7_at_21 : decode cX7_at 21 = .ok (.aload_n 0, 1) := by decide +kernel
theorem dX7_at_22 : decode cX7_at 22 = .ok (.getfield 11, 3) := by decide +kernel
theorem dX7_at_25 : decode cX7_at 25 = .ok (.iload_n 1, 1) := by decide +kernel
theorem dX7_at_26 : decode cX7_at 26 = .ok (.caload, 1) := by decide +kernel
theorem dX7_at_27 : decode cX7_at 27 = .ok (.goto 4, 3) := by decide +kernel
theorem dX7_at_30 : decode cX7_at 30 = .ok (.iconst (-1), 1) := by decide +kernel
theorem dX7_at_31 : decode cX7_at 31 = .ok (.ireturn, 1) := by decide +kernel
theorem dX7_add_0 : decode cX7_add 0 = .ok (.aload_n 0, 1) := by decide +kernel
theorem dX7_add_1 : decode cX7_add 1 = .ok (.getfield 15, 3) := by decide +kernel
theorem dX7_add_4 : decode cX7_add 4 = .ok (.ifCond .lt 35, 3) := by decide +kernel
theorem dX7_add_7 : decode cX7_add 7 = .ok (.aload_n 0, 1) := by decide +kernel
theorem dX7_add_8 : decode cX7_add 8 = .ok (.getfield 15, 3) := by decide +kernel
theorem dX7_add_11 : decode cX7_add 11 = .ok (.aload_n 0, 1) := by decide +kernel
theorem dX7_add_12 : decode cX7_add 12 = .ok (.getfield 11, 3) := by decide +kernel
theorem dX7_add_15 : decode cX7_add 15 = .ok (.arraylength, 1) := by decide +kernel
theorem dX7_add_16 : decode cX7_add 16 = .ok (.if_icmp .ge 23, 3) := by decide +kernel
theorem dX7_add_19 : decode cX7_add 19 = .ok (.aload_n 0, 1) := by decide +kernel
theorem dX7_add_20 : decode cX7_add 20 = .ok (.getfield 11, 3) := by decide +kernel
theorem dX7_add_23 : decode cX7_add 23 = .ok (.aload_n 0, 1) := by decide +kernel
theorem dX7_add_24 : decode cX7_add 24 = .ok (.getfield 15, 3) := by decide +kernel
theorem dX7_add_27 : decode cX7_add 27 = .ok (.iload_n 1, 1) := by decide +kernel
theorem dX7_add_28 : decode cX7_add 28 = .ok (.castore, 1) := by decide +kernel
theorem dX7_add_29 : decode cX7_add 29 = .ok (.aload_n 0, 1) := by decide +kernel
theorem dX7_add_30 : decode cX7_add 30 = .ok (.dup, 1) := by decide +kernel
theorem dX7_add_31 : decode cX7_add 31 = .ok (.getfield 15, 3) := by decide +kernel
theorem dX7_add_34 : decode cX7_add 34 = .ok (.iconst 1, 1) := by decide +kernel
theorem dX7_add_35 : decode cX7_add 35 = .ok (.iadd, 1) := by decide +kernel
theorem dX7_add_36 : decode cX7_add 36 = .ok (.putfield 15, 3) := by decide +kernel
theorem dX7_add_39 : decode cX7_add 39 = .ok (.return_, 1) := by decide +kernel
theorem dX7_addAll_0 : decode cX7_addAll 0 = .ok (.iconst 0, 1) := by decide +kernel
theorem dX7_addAll_1 : decode cX7_addAll 1 = .ok (.istore_n 2, 1) := by decide +kernel
theorem dX7_addAll_2 : decode cX7_addAll 2 = .ok (.iload_n 2, 1) := by decide +kernel
theorem dX7_addAll_3 : decode cX7_addAll 3 = .ok (.aload_n 1, 1) := by decide +kernel
theorem dX7_addAll_4 : decode cX7_addAll 4 = .ok (.invokevirtual 19, 3) := by decide +kernel
theorem dX7_addAll_7 : decode cX7_addAll 7 = .ok (.if_icmp .ge 18, 3) := by decide +kernel
theorem dX7_addAll_10 : decode cX7_addAll 10 = .ok (.aload_n 0, 1) := by decide +kernel
theorem dX7_addAll_11 : decode cX7_addAll 11 = .ok (.aload_n 1, 1) := by decide +kernel
theorem dX7_addAll_12 : decode cX7_addAll 12 = .ok (.iload_n 2, 1) := by decide +kernel
theorem dX7_addAll_13 : decode cX7_addAll 13 = .ok (.invokevirtual 25, 3) := by decide +kernel
theorem dX7_addAll_16 : decode cX7_addAll 16 = .ok (.invokevirtual 29, 3) := by decide +kernel
theorem dX7_addAll_19 : decode cX7_addAll 19 = .ok (.iinc 2 1, 3) := by decide +kernel
theorem dX7_addAll_22 : decode cX7_addAll 22 = .ok (.goto (-20), 3) := by decide +kernel
theorem dX7_addAll_25 : decode cX7_addAll 25 = .ok (.return_, 1) := by decide +kernel
theorem dX7_fillTo_0 : decode cX7_fillTo 0 = .ok (.aload_n 0, 1) := by decide +kernel
theorem dX7_fillTo_1 : decode cX7_fillTo 1 = .ok (.getfield 15, 3) := by decide +kernel
theorem dX7_fillTo_4 : decode cX7_fillTo 4 = .ok (.istore_n 3, 1) := by decide +kernel
theorem dX7_fillTo_5 : decode cX7_fillTo 5 = .ok (.iload_n 3, 1) := by decide +kernel
theorem dX7_fillTo_6 : decode cX7_fillTo 6 = .ok (.iload_n 1, 1) := by decide +kernel
theorem dX7_fillTo_7 : decode cX7_fillTo 7 = .ok (.if_icmp .ge 14, 3) := by decide +kernel
theorem dX7_fillTo_10 : decode cX7_fillTo 10 = .ok (.aload_n 0, 1) := by decide +kernel
theorem dX7_fillTo_11 : decode cX7_fillTo 11 = .ok (.iload_n 2, 1) := by decide +kernel
theorem dX7_fillTo_12 : decode cX7_fillTo 12 = .ok (.invokevirtual 29, 3) := by decide +kernel
theorem dX7_fillTo_15 : decode cX7_fillTo 15 = .ok (.iinc 3 1, 3) := by decide +kernel
theorem dX7_fillTo_18 : decode cX7_fillTo 18 = .ok (.goto (-13), 3) := by decide +kernel
theorem dX7_fillTo_21 : decode cX7_fillTo 21 = .ok (.return_, 1) := by decide +kernel
theorem dX7_cutTo_0 : decode cX7_cutTo 0 = .ok (.iload_n 1, 1) := by decide +kernel
theorem dX7_cutTo_1 : decode cX7_cutTo 1 = .ok (.ifCond .lt 16, 3) := by decide +kernel
theorem dX7_cutTo_4 : decode cX7_cutTo 4 = .ok (.iload_n 1, 1) := by decide +kernel
theorem dX7_cutTo_5 : decode cX7_cutTo 5 = .ok (.aload_n 0, 1) := by decide +kernel
theorem dX7_cutTo_6 : decode cX7_cutTo 6 = .ok (.getfield 15, 3) := by decide +kernel
theorem dX7_cutTo_9 : decode cX7_cutTo 9 = .ok (.if_icmp .ge 8, 3) := by decide +kernel
theorem dX7_cutTo_12 : decode cX7_cutTo 12 = .ok (.aload_n 0, 1) := by decide +kernel
theorem dX7_cutTo_13 : decode cX7_cutTo 13 = .ok (.iload_n 1, 1) := by decide +kernel
theorem dX7_cutTo_14 : decode cX7_cutTo 14 = .ok (.putfield 15, 3) := by decide +kernel
theorem dX7_cutTo_17 : decode cX7_cutTo 17 = .ok (.return_, 1) := by decide +kernel
theorem dX8_init_0 : decode cX8_init 0 = .ok (.aload_n 0, 1) := by decide +kernel
theorem dX8_init_1 : decode cX8_init 1 = .ok (.invokespecial 3, 3) := by decide +kernel
theorem dX8_init_4 : decode cX8_init 4 = .ok (.aload_n 0, 1) := by decide +kernel
theorem dX8_init_5 : decode cX8_init 5 = .ok (.sipush 200, 3) := by decide +kernel
theorem dX8_init_8 : decode cX8_init 8 = .ok (.newarray .char, 2) := by decide +kernel
theorem dX8_init_10 : decode cX8_init 10 = .ok (.putfield 9, 3) := by decide +kernel
theorem dX8_init_13 : decode cX8_init 13 = .ok (.aload_n 0, 1) := by decide +kernel
theorem dX8_init_14 : decode cX8_init 14 = .ok (.sipush 202, 3) := by decide +kernel
theorem dX8_init_17 : decode cX8_init 17 = .ok (.newarray .int, 2) := by decide +kernel
theorem dX8_init_19 : decode cX8_init 19 = .ok (.putfield 15, 3) := by decide +kernel
theorem dX8_init_22 : decode cX8_init 22 = .ok (.aload_n 0, 1) := by decide +kernel
theorem dX8_init_23 : decode cX8_init 23 = .ok (.iconst 1, 1) := by decide +kernel
theorem dX8_init_24 : decode cX8_init 24 = .ok (.putfield 19, 3) := by decide +kernel
theorem dX8_init_27 : decode cX8_init 27 = .ok (.aload_n 0, 1) := by decide +kernel
theorem dX8_init_28 : decode cX8_init 28 = .ok (.sipush 200, 3) := by decide +kernel
theorem dX8_init_31 : decode cX8_init 31 = .ok (.newarray .int, 2) := by decide +kernel
theorem dX8_init_33 : decode cX8_init 33 = .ok (.putfield 23, 3) := by decide +kernel
theorem dX8_init_36 : decode cX8_init 36 = .ok (.return_, 1) := by decide +kernel
theorem dX8_copyFrom_0 : decode cX8_copyFrom 0 = .ok (.aload_n 1, 1) := by decide +kernel
theorem dX8_copyFrom_1 : decode cX8_copyFrom 1 = .ok (.getfield 9, 3) := by decide +kernel
theorem dX8_copyFrom_4 : decode cX8_copyFrom 4 = .ok (.iconst 0, 1) := by decide +kernel
theorem dX8_copyFrom_5 : decode cX8_copyFrom 5 = .ok (.aload_n 0, 1) := by decide +kernel
theorem dX8_copyFrom_6 : decode cX8_copyFrom 6 = .ok (.getfield 9, 3) := by decide +kernel
theorem dX8_copyFrom_9 : decode cX8_copyFrom 9 = .ok (.iconst 0, 1) := by decide +kernel
theorem dX8_copyFrom_10 : decode cX8_copyFrom 10 = .ok (.sipush 200, 3) := by decide +kernel
theorem dX8_copyFrom_13 : decode cX8_copyFrom 13 = .ok (.invokestatic 26, 3) := by decide +kernel
theorem dX8_copyFrom_16 : decode cX8_copyFrom 16 = .ok (.aload_n 1, 1) := by decide +kernel
theorem dX8_copyFrom_17 : decode cX8_copyFrom 17 = .ok (.getfield 15, 3) := by decide +kernel
theorem dX8_copyFrom_20 : decode cX8_copyFrom 20 = .ok (.iconst 0, 1) := by decide +kernel
theorem dX8_copyFrom_21 : decode cX8_copyFrom 21 = .ok (.aload_n 0, 1) := by decide +kernel
theorem dX8_copyFrom_22 : decode cX8_copyFrom 22 = .ok (.getfield 15, 3) := by decide +kernel
theorem dX8_copyFrom_25 : decode cX8_copyFrom 25 = .ok (.iconst 0, 1) := by decide +kernel
theorem dX8_copyFrom_26 : decode cX8_copyFrom 26 = .ok (.sipush 202, 3) := by decide +kernel
theorem dX8_copyFrom_29 : decode cX8_copyFrom 29 = .ok (.invokestatic 26, 3) := by decide +kernel
theorem dX8_copyFrom_32 : decode cX8_copyFrom 32 = .ok (.aload_n 1, 1) := by decide +kernel
theorem dX8_copyFrom_33 : decode cX8_copyFrom 33 = .ok (.getfield 23, 3) := by decide +kernel
theorem dX8_copyFrom_36 : decode cX8_copyFrom 36 = .ok (.iconst 0, 1) := by decide +kernel
theorem dX8_copyFrom_37 : decode cX8_copyFrom 37 = .ok (.aload_n 0, 1) := by decide +kernel
theorem dX8_copyFrom_38 : decode cX8_copyFrom 38 = .ok (.getfield 23, 3) := by decide +kernel
theorem dX8_copyFrom_41 : decode cX8_copyFrom 41 = .ok (.iconst 0, 1) := by decide +kernel
theorem dX8_copyFrom_42 : decode cX8_copyFrom 42 = .ok (.sipush 200, 3) := by decide +kernel
theorem dX8_copyFrom_45 : decode cX8_copyFrom 45 = .ok (.invokestatic 26, 3) := by decide +kernel
theorem dX8_copyFrom_48 : decode cX8_copyFrom 48 = .ok (.aload_n 0, 1) := by decide +kernel
theorem dX8_copyFrom_49 : decode cX8_copyFrom 49 = .ok (.aload_n 1, 1) := by decide +kernel
theorem dX8_copyFrom_50 : decode cX8_copyFrom 50 = .ok (.getfield 19, 3) := by decide +kernel
theorem dX8_copyFrom_53 : decode cX8_copyFrom 53 = .ok (.putfield 19, 3) := by decide +kernel
theorem dX8_copyFrom_56 : decode cX8_copyFrom 56 = .ok (.aload_n 0, 1) := by decide +kernel
theorem dX8_copyFrom_57 : decode cX8_copyFrom 57 = .ok (.aload_n 1, 1) := by decide +kernel
theorem dX8_copyFrom_58 : decode cX8_copyFrom 58 = .ok (.getfield 32, 3) := by decide +kernel
theorem dX8_copyFrom_61 : decode cX8_copyFrom 61 = .ok (.putfield 32, 3) := by decide +kernel
theorem dX8_copyFrom_64 : decode cX8_copyFrom 64 = .ok (.aload_n 0, 1) := by decide +kernel
theorem dX8_copyFrom_65 : decode cX8_copyFrom 65 = .ok (.aload_n 1, 1) := by decide +kernel
theorem dX8_copyFrom_66 : decode cX8_copyFrom 66 = .ok (.getfield 35, 3) := by decide +kernel
theorem dX8_copyFrom_69 : decode cX8_copyFrom 69 = .ok (.putfield 35, 3) := by decide +kernel
theorem dX8_copyFrom_72 : decode cX8_copyFrom 72 = .ok (.aload_n 0, 1) := by decide +kernel
theorem dX8_copyFrom_73 : decode cX8_copyFrom 73 = .ok (.aload_n 1, 1) := by decide +kernel
theorem dX8_copyFrom_74 : decode cX8_copyFrom 74 = .ok (.getfield 38, 3) := by decide +kernel
theorem dX8_copyFrom_77 : decode cX8_copyFrom 77 = .ok (.putfield 38, 3) := by decide +kernel
theorem dX8_copyFrom_80 : decode cX8_copyFrom 80 = .ok (.return_, 1) := by decide +kernel
theorem dX8_clear_0 : decode cX8_clear 0 = .ok (.aload_n 0, 1) := by decide +kernel
theorem dX8_clear_1 : decode cX8_clear 1 = .ok (.getfield 15, 3) := by decide +kernel
theorem dX8_clear_4 : decode cX8_clear 4 = .ok (.iconst 0, 1) := by decide +kernel
theorem dX8_clear_5 : decode cX8_clear 5 = .ok (.iconst 0, 1) := by decide +kernel
theorem dX8_clear_6 : decode cX8_clear 6 = .ok (.iastore, 1) := by decide +kernel
theorem dX8_clear_7 : decode cX8_clear 7 = .ok (.aload_n 0, 1) := by decide +kernel
theorem dX8_clear_8 : decode cX8_clear 8 = .ok (.getfield 15, 3) := by decide +kernel
theorem dX8_clear_11 : decode cX8_clear 11 = .ok (.iconst 1, 1) := by decide +kernel
theorem dX8_clear_12 : decode cX8_clear 12 = .ok (.iconst 0, 1) := by decide +kernel
theorem dX8_clear_13 : decode cX8_clear 13 = .ok (.iastore, 1) := by decide +kernel
theorem dX8_clear_14 : decode cX8_clear 14 = .ok (.aload_n 0, 1) := by decide +kernel
theorem dX8_clear_15 : decode cX8_clear 15 = .ok (.iconst 1, 1) := by decide +kernel
theorem dX8_clear_16 : decode cX8_clear 16 = .ok (.putfield 19, 3) := by decide +kernel
theorem dX8_clear_19 : decode cX8_clear 19 = .ok (.aload_n 0, 1) := by decide +kernel
theorem dX8_clear_20 : decode cX8_clear 20 = .ok (.iconst 0, 1) := by decide +kernel
theorem dX8_clear_21 : decode cX8_clear 21 = .ok (.putfield 32, 3) := by decide +kernel
theorem dX8_clear_24 : decode cX8_clear 24 = .ok (.return_, 1) := by decide +kernel
theorem dX8_lineCount_0 : decode cX8_lineCount 0 = .ok (.aload_n 0, 1) := by decide +kernel
theorem dX8_lineCount_1 : decode cX8_lineCount 1 = .ok (.getfield 19, 3) := by decide +kernel
theorem dX8_lineCount_4 : decode cX8_lineCount 4 = .ok (.ireturn, 1) := by decide +kernel
theorem dX8_chordCount_0 : decode cX8_chordCount 0 = .ok (.aload_n 0, 1) := by decide +kernel
theorem dX8_chordCount_1 : decode cX8_chordCount 1 = .ok (.getfield 32, 3) := by decide +kernel
theorem dX8_chordCount_4 : decode cX8_chordCount 4 = .ok (.ireturn, 1) := by decide +kernel
theorem dX8_hasLine_0 : decode cX8_hasLine 0 = .ok (.iload_n 1, 1) := by decide +kernel
theorem dX8_hasLine_1 : decode cX8_hasLine 1 = .ok (.ifCond .lt 15, 3) := by decide +kernel
theorem dX8_hasLine_4 : decode cX8_hasLine 4 = .ok (.iload_n 1, 1) := by decide +kernel
theorem dX8_hasLine_5 : decode cX8_hasLine 5 = .ok (.aload_n 0, 1) := by decide +kernel
theorem dX8_hasLine_6 : decode cX8_hasLine 6 = .ok (.getfield 19, 3) := by decide +kernel
theorem dX8_hasLine_9 : decode cX8_hasLine 9 = .ok (.if_icmp .ge 7, 3) := by decide +kernel
theorem dX8_hasLine_12 : decode cX8_hasLine 12 = .ok (.iconst 1, 1) := by decide +kernel
theorem dX8_hasLine_13 : decode cX8_hasLine 13 = .ok (.goto 4, 3) := by decide +kernel
theorem dX8_hasLine_16 : decode cX8_hasLine 16 = .ok (.iconst 0, 1) := by decide +kernel
theorem dX8_hasLine_17 : decode cX8_hasLine 17 = .ok (.ireturn, 1) := by decide +kernel
theorem dX8_lengthOf_0 : decode cX8_lengthOf 0 = .ok (.aload_n 0, 1) := by decide +kernel
theorem dX8_lengthOf_1 : decode cX8_lengthOf 1 = .ok (.iload_n 1, 1) := by decide +kernel
theorem dX8_lengthOf_2 : decode cX8_lengthOf 2 = .ok (.iconst 1, 1) := by decide +kernel
theorem dX8_lengthOf_3 : decode cX8_lengthOf 3 = .ok (.iadd, 1) := by decide +kernel
theorem dX8_lengthOf_4 : decode cX8_lengthOf 4 = .ok (.invokevirtual 42, 3) := by decide +kernel
theorem dX8_lengthOf_7 : decode cX8_lengthOf 7 = .ok (.aload_n 0, 1) := by decide +kernel
theorem dX8_lengthOf_8 : decode cX8_lengthOf 8 = .ok (.iload_n 1, 1) := by decide +kernel
theorem dX8_lengthOf_9 : decode cX8_lengthOf 9 = .ok (.invokevirtual 42, 3) := by decide +kernel
theorem dX8_lengthOf_12 : decode cX8_lengthOf 12 = .ok (.isub, 1) := by decide +kernel
theorem dX8_lengthOf_13 : decode cX8_lengthOf 13 = .ok (.ireturn, 1) := by decide +kernel
theorem dX8_letterAt_0 : decode cX8_letterAt 0 = .ok (.aload_n 0, 1) := by decide +kernel
theorem dX8_letterAt_1 : decode cX8_letterAt 1 = .ok (.iload_n 1, 1) := by decide +kernel
theorem dX8_letterAt_2 : decode cX8_letterAt 2 = .ok (.invokevirtual 42, 3) := by decide +kernel
theorem dX8_letterAt_5 : decode cX8_letterAt 5 = .ok (.iload_n 2, 1) := by decide +kernel
theorem dX8_letterAt_6 : decode cX8_letterAt 6 = .ok (.iadd, 1) := by decide +kernel
theorem dX8_letterAt_7 : decode cX8_letterAt 7 = .ok (.istore_n 3, 1) := by decide +kernel
theorem dX8_letterAt_8 : decode cX8_letterAt 8 = .ok (.iload_n 2, 1) := by decide +kernel
theorem dX8_letterAt_9 : decode cX8_letterAt 9 = .ok (.ifCond .lt 18, 3) := by decide +kernel
theorem dX8_letterAt_12 : decode cX8_letterAt 12 = .ok (.iload_n 3, 1) := by decide +kernel
theorem dX8_letterAt_13 : decode cX8_letterAt 13 = .ok (.aload_n 0, 1) := by decide +kernel
theorem dX8_letterAt_14 : decode cX8_letterAt 14 = .ok (.iload_n 1, 1) := by decide +kernel
theorem dX8_letterAt_15 : decode cX8_letterAt 15 = .ok (.iconst 1, 1) := by decide +kernel
theorem dX8_letterAt_16 : decode cX8_letterAt 16 = .ok (.iadd, 1) := by decide +kernel
theorem dX8_letterAt_17 : decode cX8_letterAt 17 = .ok (.invokevirtual 42, 3) := by decide +kernel
theorem dX8_letterAt_20 : decode cX8_letterAt 20 = .ok (.if_icmp .ge 7, 3) := by decide +kernel
theorem dX8_letterAt_23 : decode cX8_letterAt 23 = .ok (.iconst 1, 1) := by decide +kernel
theorem dX8_letterAt_24 : decode cX8_letterAt 24 = .ok (.goto 4, 3) := by decide +kernel
theorem dX8_letterAt_27 : decode cX8_letterAt 27 = .ok (.iconst 0, 1) := by decide +kernel
theorem dX8_letterAt_28 : decode cX8_letterAt 28 = .ok (.istore 4, 2) := by decide +kernel
theorem dX8_letterAt_30 : decode cX8_letterAt 30 = .ok (.iload 4, 2) := by decide +kernel
theorem dX8_letterAt_32 : decode cX8_letterAt 32 = .ok (.ifCond .eq 25, 3) := by decide +kernel
theorem dX8_letterAt_35 : decode cX8_letterAt 35 = .ok (.iload_n 3, 1) := by decide +kernel
theorem dX8_letterAt_36 : decode cX8_letterAt 36 = .ok (.ifCond .lt 21, 3) := by decide +kernel
theorem dX8_letterAt_39 : decode cX8_letterAt 39 = .ok (.iload_n 3, 1) := by decide +kernel
theorem dX8_letterAt_40 : decode cX8_letterAt 40 = .ok (.aload_n 0, 1) := by decide +kernel
theorem dX8_letterAt_41 : decode cX8_letterAt 41 = .ok (.getfield 9, 3) := by decide +kernel
theorem dX8_letterAt_44 : decode cX8_letterAt 44 = .ok (.arraylength, 1) := by decide +kernel
theorem dX8_letterAt_45 : decode cX8_letterAt 45 = .ok (.if_icmp .ge 12, 3) := by decide +kernel
theorem dX8_letterAt_48 : decode cX8_letterAt 48 = .ok (.aload_n 0, 1) := by decide +kernel
theorem dX8_letterAt_49 : decode cX8_letterAt 49 = .ok (.getfield 9, 3) := by decide +kernel
theorem dX8_letterAt_52 : decode cX8_letterAt 52 = .ok (.iload_n 3, 1) := by decide +kernel
theorem dX8_letterAt_53 : decode cX8_letterAt 53 = .ok (.caload, 1) := by decide +kernel
theorem dX8_letterAt_54 : decode cX8_letterAt 54 = .ok (.goto 4, 3) := by decide +kernel
theorem dX8_letterAt_57 : decode cX8_letterAt 57 = .ok (.iconst (-1), 1) := by decide +kernel
theorem dX8_letterAt_58 : decode cX8_letterAt 58 = .ok (.ireturn, 1) := by decide +kernel
theorem dX8_addLetter_0 : decode cX8_addLetter 0 = .ok (.aload_n 0, 1) := by decide +kernel
theorem dX8_addLetter_1 : decode cX8_addLetter 1 = .ok (.aload_n 0, 1) := by decide +kernel
theorem dX8_addLetter_2 : decode cX8_addLetter 2 = .ok (.getfield 19, 3) := by decide +kernel
theorem dX8_addLetter_5 : decode cX8_addLetter 5 = .ok (.invokevirtual 42, 3) := by decide +kernel
theorem dX8_addLetter_8 : decode cX8_addLetter 8 = .ok (.istore_n 2, 1) := by decide +kernel
theorem dX8_addLetter_9 : decode cX8_addLetter 9 = .ok (.iload_n 2, 1) := by decide +kernel
theorem dX8_addLetter_10 : decode cX8_addLetter 10 = .ok (.ifCond .lt 50, 3) := by decide +kernel
theorem dX8_addLetter_13 : decode cX8_addLetter 13 = .ok (.iload_n 2, 1) := by decide +kernel
theorem dX8_addLetter_14 : decode cX8_addLetter 14 = .ok (.aload_n 0, 1) := by decide +kernel
theorem dX8_addLetter_15 : decode cX8_addLetter 15 = .ok (.getfield 9, 3) := by decide +kernel
theorem dX8_addLetter_18 : decode cX8_addLetter 18 = .ok (.arraylength, 1) := by decide +kernel
theorem dX8_addLetter_19 : decode cX8_addLetter 19 = .ok (.if_icmp .ge 41, 3) := by decide +kernel
theorem dX8_addLetter_22 : decode cX8_addLetter 22 = .ok (.aload_n 0, 1) := by decide +kernel
theorem dX8_addLetter_23 : decode cX8_addLetter 23 = .ok (.getfield 19, 3) := by decide +kernel
theorem dX8_addLetter_26 : decode cX8_addLetter 26 = .ok (.ifCond .lt 34, 3) := by decide +kernel
theorem dX8_addLetter_29 : decode cX8_addLetter 29 = .ok (.aload_n 0, 1) := by decide +kernel
theorem dX8_addLetter_30 : decode cX8_addLetter 30 = .ok (.getfield 19, 3) := by decide +kernel
theorem dX8_addLetter_33 : decode cX8_addLetter 33 = .ok (.aload_n 0, 1) := by decide +kernel
theorem dX8_addLetter_34 : decode cX8_addLetter 34 = .ok (.getfield 15, 3) := by decide +kernel
theorem dX8_addLetter_37 : decode cX8_addLetter 37 = .ok (.arraylength, 1) := by decide +kernel
theorem dX8_addLetter_38 : decode cX8_addLetter 38 = .ok (.if_icmp .ge 22, 3) := by decide +kernel
theorem dX8_addLetter_41 : decode cX8_addLetter 41 = .ok (.aload_n 0, 1) := by decide +kernel
theorem dX8_addLetter_42 : decode cX8_addLetter 42 = .ok (.getfield 9, 3) := by decide +kernel
theorem dX8_addLetter_45 : decode cX8_addLetter 45 = .ok (.iload_n 2, 1) := by decide +kernel
theorem dX8_addLetter_46 : decode cX8_addLetter 46 = .ok (.iload_n 1, 1) := by decide +kernel
theorem dX8_addLetter_47 : decode cX8_addLetter 47 = .ok (.castore, 1) := by decide +kernel
theorem dX8_addLetter_48 : decode cX8_addLetter 48 = .ok (.aload_n 0, 1) := by decide +kernel
theorem dX8_addLetter_49 : decode cX8_addLetter 49 = .ok (.getfield 15, 3) := by decide +kernel
theorem dX8_addLetter_52 : decode cX8_addLetter 52 = .ok (.aload_n 0, 1) := by decide +kernel
theorem dX8_addLetter_53 : decode cX8_addLetter 53 = .ok (.getfield 19, 3) := by decide +kernel
theorem dX8_addLetter_56 : decode cX8_addLetter 56 = .ok (.iload_n 2, 1) := by decide +kernel
theorem dX8_addLetter_57 : decode cX8_addLetter 57 = .ok (.iconst 1, 1) := by decide +kernel
theorem dX8_addLetter_58 : decode cX8_addLetter 58 = .ok (.iadd, 1) := by decide +kernel
theorem dX8_addLetter_59 : decode cX8_addLetter 59 = .ok (.iastore, 1) := by decide +kernel
theorem dX8_addLetter_60 : decode cX8_addLetter 60 = .ok (.return_, 1) := by decide +kernel
theorem dX8_beginLine_0 : decode cX8_beginLine 0 = .ok (.aload_n 0, 1) := by decide +kernel
theorem dX8_beginLine_1 : decode cX8_beginLine 1 = .ok (.getfield 19, 3) := by decide +kernel
theorem dX8_beginLine_4 : decode cX8_beginLine 4 = .ok (.iconst 1, 1) := by decide +kernel
theorem dX8_beginLine_5 : decode cX8_beginLine 5 = .ok (.iadd, 1) := by decide +kernel
theorem dX8_beginLine_6 : decode cX8_beginLine 6 = .ok (.istore_n 1, 1) := by decide +kernel
theorem dX8_beginLine_7 : decode cX8_beginLine 7 = .ok (.iload_n 1, 1) := by decide +kernel
theorem dX8_beginLine_8 : decode cX8_beginLine 8 = .ok (.ifCond .lt 31, 3) := by decide +kernel
theorem dX8_beginLine_11 : decode cX8_beginLine 11 = .ok (.iload_n 1, 1) := by decide +kernel
theorem dX8_beginLine_12 : decode cX8_beginLine 12 = .ok (.aload_n 0, 1) := by decide +kernel
theorem dX8_beginLine_13 : decode cX8_beginLine 13 = .ok (.getfield 15, 3) := by decide +kernel
theorem dX8_beginLine_16 : decode cX8_beginLine 16 = .ok (.arraylength, 1) := by decide +kernel
theorem dX8_beginLine_17 : decode cX8_beginLine 17 = .ok (.if_icmp .ge 22, 3) := by decide +kernel
theorem dX8_beginLine_20 : decode cX8_beginLine 20 = .ok (.aload_n 0, 1) := by decide +kernel
theorem dX8_beginLine_21 : decode cX8_beginLine 21 = .ok (.getfield 15, 3) := by decide +kernel
theorem dX8_beginLine_24 : decode cX8_beginLine 24 = .ok (.iload_n 1, 1) := by decide +kernel
theorem dX8_beginLine_25 : decode cX8_beginLine 25 = .ok (.aload_n 0, 1) := by decide +kernel
theorem dX8_beginLine_26 : decode cX8_beginLine 26 = .ok (.aload_n 0, 1) := by decide +kernel
theorem dX8_beginLine_27 : decode cX8_beginLine 27 = .ok (.getfield 19, 3) := by decide +kernel
theorem dX8_beginLine_30 : decode cX8_beginLine 30 = .ok (.invokevirtual 42, 3) := by decide +kernel
theorem dX8_beginLine_33 : decode cX8_beginLine 33 = .ok (.iastore, 1) := by decide +kernel
theorem dX8_beginLine_34 : decode cX8_beginLine 34 = .ok (.aload_n 0, 1) := by decide +kernel
theorem dX8_beginLine_35 : decode cX8_beginLine 35 = .ok (.iload_n 1, 1) := by decide +kernel
theorem dX8_beginLine_36 : decode cX8_beginLine 36 = .ok (.putfield 19, 3) := by decide +kernel
theorem dX8_beginLine_39 : decode cX8_beginLine 39 = .ok (.return_, 1) := by decide +kernel
theorem dX8_get_0 : decode cX8_get 0 = .ok (.iload_n 1, 1) := by decide +kernel
theorem dX8_get_1 : decode cX8_get 1 = .ok (.iconst 5, 1) := by decide +kernel
theorem dX8_get_2 : decode cX8_get 2 = .ok (.imul, 1) := by decide +kernel
theorem dX8_get_3 : decode cX8_get 3 = .ok (.iload_n 2, 1) := by decide +kernel
theorem dX8_get_4 : decode cX8_get 4 = .ok (.iadd, 1) := by decide +kernel
theorem dX8_get_5 : decode cX8_get 5 = .ok (.istore_n 3, 1) := by decide +kernel
theorem dX8_get_6 : decode cX8_get 6 = .ok (.iload_n 3, 1) := by decide +kernel
theorem dX8_get_7 : decode cX8_get 7 = .ok (.ifCond .lt 21, 3) := by decide +kernel
theorem dX8_get_10 : decode cX8_get 10 = .ok (.iload_n 3, 1) := by decide +kernel
theorem dX8_get_11 : decode cX8_get 11 = .ok (.aload_n 0, 1) := by decide +kernel
theorem dX8_get_12 : decode cX8_get 12 = .ok (.getfield 23, 3) := by decide +kernel
theorem dX8_get_15 : decode cX8_get 15 = .ok (.arraylength, 1) := by decide +kernel
theorem dX8_get_16 : decode cX8_get 16 = .ok (.if_icmp .ge 12, 3) := by decide +kernel
theorem dX8_get_19 : decode cX8_get 19 = .ok (.aload_n 0, 1) := by decide +kernel
theorem dX8_get_20 : decode cX8_get 20 = .ok (.getfield 23, 3) := by decide +kernel
theorem dX8_get_23 : decode cX8_get 23 = .ok (.iload_n 3, 1) := by decide +kernel
theorem dX8_get_24 : decode cX8_get 24 = .ok (.iaload, 1) := by decide +kernel
theorem dX8_get_25 : decode cX8_get 25 = .ok (.goto 4, 3) := by decide +kernel
theorem dX8_get_28 : decode cX8_get 28 = .ok (.iconst 0, 1) := by decide +kernel
theorem dX8_get_29 : decode cX8_get 29 = .ok (.ireturn, 1) := by decide +kernel
theorem dX8_put_0 : decode cX8_put 0 = .ok (.aload_n 0, 1) := by decide +kernel
theorem dX8_put_1 : decode cX8_put 1 = .ok (.iload_n 1, 1) := by decide +kernel
theorem dX8_put_2 : decode cX8_put 2 = .ok (.iconst 2, 1) := by decide +kernel
theorem dX8_put_3 : decode cX8_put 3 = .ok (.iload_n 2, 1) := by decide +kernel
theorem dX8_put_4 : decode cX8_put 4 = .ok (.invokevirtual 46, 3) := by decide +kernel
theorem dX8_put_7 : decode cX8_put 7 = .ok (.aload_n 0, 1) := by decide +kernel
theorem dX8_put_8 : decode cX8_put 8 = .ok (.iload_n 1, 1) := by decide +kernel
theorem dX8_put_9 : decode cX8_put 9 = .ok (.iconst 3, 1) := by decide +kernel
theorem dX8_put_10 : decode cX8_put 10 = .ok (.iload_n 3, 1) := by decide +kernel
theorem dX8_put_11 : decode cX8_put 11 = .ok (.invokevirtual 46, 3) := by decide +kernel
theorem dX8_put_14 : decode cX8_put 14 = .ok (.aload_n 0, 1) := by decide +kernel
theorem dX8_put_15 : decode cX8_put 15 = .ok (.iload_n 1, 1) := by decide +kernel
theorem dX8_put_16 : decode cX8_put 16 = .ok (.iconst 4, 1) := by decide +kernel
theorem dX8_put_17 : decode cX8_put 17 = .ok (.iload 4, 2) := by decide +kernel
theorem dX8_put_19 : decode cX8_put 19 = .ok (.invokevirtual 46, 3) := by decide +kernel
theorem dX8_put_22 : decode cX8_put 22 = .ok (.return_, 1) := by decide +kernel
theorem dX8_append_0 : decode cX8_append 0 = .ok (.aload_n 0, 1) := by decide +kernel
theorem dX8_append_1 : decode cX8_append 1 = .ok (.getfield 19, 3) := by decide +kernel
theorem dX8_append_4 : decode cX8_append 4 = .ok (.iconst 1, 1) := by decide +kernel
theorem dX8_append_5 : decode cX8_append 5 = .ok (.isub, 1) := by decide +kernel
theorem dX8_append_6 : decode cX8_append 6 = .ok (.istore 4, 2) := by decide +kernel
theorem dX8_append_8 : decode cX8_append 8 = .ok (.aload_n 0, 1) := by decide +kernel
theorem dX8_append_9 : decode cX8_append 9 = .ok (.iload 4, 2) := by decide +kernel
theorem dX8_append_11 : decode cX8_append 11 = .ok (.aload_n 0, 1) := by decide +kernel
theorem dX8_append_12 : decode cX8_append 12 = .ok (.iload 4, 2) := by decide +kernel
theorem dX8_append_14 : decode cX8_append 14 = .ok (.invokevirtual 50, 3) := by decide +kernel
theorem dX8_append_17 : decode cX8_append 17 = .ok (.iload_n 1, 1) := by decide +kernel
theorem dX8_append_18 : decode cX8_append 18 = .ok (.iload_n 2, 1) := by decide +kernel
theorem dX8_append_19 : decode cX8_append 19 = .ok (.iload_n 3, 1) := by decide +kernel
theorem dX8_append_20 : decode cX8_append 20 = .ok (.invokevirtual 53, 3) := by decide +kernel
theorem dX8_append_23 : decode cX8_append 23 = .ok (.pop, 1) := by decide +kernel
theorem dX8_append_24 : decode cX8_append 24 = .ok (.return_, 1) := by decide +kernel
theorem dX8_insert_0 : decode cX8_insert 0 = .ok (.aload_n 0, 1) := by decide +kernel
theorem dX8_insert_1 : decode cX8_insert 1 = .ok (.iload_n 1, 1) := by decide +kernel
theorem dX8_insert_2 : decode cX8_insert 2 = .ok (.iload_n 2, 1) := by decide +kernel
theorem dX8_insert_3 : decode cX8_insert 3 = .ok (.invokevirtual 57, 3) := by decide +kernel
theorem dX8_insert_6 : decode cX8_insert 6 = .ok (.istore 6, 2) := by decide +kernel
theorem dX8_insert_8 : decode cX8_insert 8 = .ok (.aload_n 0, 1) := by decide +kernel
theorem dX8_insert_9 : decode cX8_insert 9 = .ok (.getfield 32, 3) := by decide +kernel
theorem dX8_insert_12 : decode cX8_insert 12 = .ok (.bipush 40, 2) := by decide +kernel
theorem dX8_insert_14 : decode cX8_insert 14 = .ok (.if_icmp .ge 83, 3) := by decide +kernel
theorem dX8_insert_17 : decode cX8_insert 17 = .ok (.iload 6, 2) := by decide +kernel
theorem dX8_insert_19 : decode cX8_insert 19 = .ok (.aload_n 0, 1) := by decide +kernel
theorem dX8_insert_20 : decode cX8_insert 20 = .ok (.getfield 32, 3) := by decide +kernel
theorem dX8_insert_23 : decode cX8_insert 23 = .ok (.if_icmp .gt 74, 3) := by decide +kernel
theorem dX8_insert_26 : decode cX8_insert 26 = .ok (.aload_n 0, 1) := by decide +kernel
theorem dX8_insert_27 : decode cX8_insert 27 = .ok (.getfield 32, 3) := by decide +kernel
theorem dX8_insert_30 : decode cX8_insert 30 = .ok (.iload 6, 2) := by decide +kernel
theorem dX8_insert_32 : decode cX8_insert 32 = .ok (.isub, 1) := by decide +kernel
theorem dX8_insert_33 : decode cX8_insert 33 = .ok (.iconst 5, 1) := by decide +kernel
theorem dX8_insert_34 : decode cX8_insert 34 = .ok (.imul, 1) := by decide +kernel
theorem dX8_insert_35 : decode cX8_insert 35 = .ok (.istore 7, 2) := by decide +kernel
theorem dX8_insert_37 : decode cX8_insert 37 = .ok (.aload_n 0, 1) := by decide +kernel
theorem dX8_insert_38 : decode cX8_insert 38 = .ok (.getfield 23, 3) := by decide +kernel
theorem dX8_insert_41 : decode cX8_insert 41 = .ok (.iload 6, 2) := by decide +kernel
theorem dX8_insert_43 : decode cX8_insert 43 = .ok (.iconst 5, 1) := by decide +kernel
theorem dX8_insert_44 : decode cX8_insert 44 = .ok (.imul, 1) := by decide +kernel
theorem dX8_insert_45 : decode cX8_insert 45 = .ok (.aload_n 0, 1) := by decide +kernel
theorem dX8_insert_46 : decode cX8_insert 46 = .ok (.getfield 23, 3) := by decide +kernel
theorem dX8_insert_49 : decode cX8_insert 49 = .ok (.iload 6, 2) := by decide +kernel
theorem dX8_insert_51 : decode cX8_insert 51 = .ok (.iconst 1, 1) := by decide +kernel
theorem dX8_insert_52 : decode cX8_insert 52 = .ok (.iadd, 1) := by decide +kernel
theorem dX8_insert_53 : decode cX8_insert 53 = .ok (.iconst 5, 1) := by decide +kernel
theorem dX8_insert_54 : decode cX8_insert 54 = .ok (.imul, 1) := by decide +kernel
theorem dX8_insert_55 : decode cX8_insert 55 = .ok (.iload 7, 2) := by decide +kernel
theorem dX8_insert_57 : decode cX8_insert 57 = .ok (.invokestatic 26, 3) := by decide +kernel
theorem dX8_insert_60 : decode cX8_insert 60 = .ok (.aload_n 0, 1) := by decide +kernel
theorem dX8_insert_61 : decode cX8_insert 61 = .ok (.dup, 1) := by decide +kernel
theorem dX8_insert_62 : decode cX8_insert 62 = .ok (.getfield 32, 3) := by decide +kernel
theorem dX8_insert_65 : decode cX8_insert 65 = .ok (.iconst 1, 1) := by decide +kernel
theorem dX8_insert_66 : decode cX8_insert 66 = .ok (.iadd, 1) := by decide +kernel
theorem dX8_insert_67 : decode cX8_insert 67 = .ok (.putfield 32, 3) := by decide +kernel
theorem dX8_insert_70 : decode cX8_insert 70 = .ok (.aload_n 0, 1) := by decide +kernel
theorem dX8_insert_71 : decode cX8_insert 71 = .ok (.iload 6, 2) := by decide +kernel
theorem dX8_insert_73 : decode cX8_insert 73 = .ok (.iconst 0, 1) := by decide +kernel
theorem dX8_insert_74 : decode cX8_insert 74 = .ok (.iload_n 1, 1) := by decide +kernel
theorem dX8_insert_75 : decode cX8_insert 75 = .ok (.invokevirtual 46, 3) := by decide +kernel
theorem dX8_insert_78 : decode cX8_insert 78 = .ok (.aload_n 0, 1) := by decide +kernel
theorem dX8_insert_79 : decode cX8_insert 79 = .ok (.iload 6, 2) := by decide +kernel
theorem dX8_insert_81 : decode cX8_insert 81 = .ok (.iconst 1, 1) := by decide +kernel
theorem dX8_insert_82 : decode cX8_insert 82 = .ok (.iload_n 2, 1) := by decide +kernel
theorem dX8_insert_83 : decode cX8_insert 83 = .ok (.invokevirtual 46, 3) := by decide +kernel
theorem dX8_insert_86 : decode cX8_insert 86 = .ok (.aload_n 0, 1) := by decide +kernel
theorem dX8_insert_87 : decode cX8_insert 87 = .ok (.iload 6, 2) := by decide +kernel
theorem dX8_insert_89 : decode cX8_insert 89 = .ok (.iload_n 3, 1) := by decide +kernel
theorem dX8_insert_90 : decode cX8_insert 90 = .ok (.iload 4, 2) := by decide +kernel
theorem dX8_insert_92 : decode cX8_insert 92 = .ok (.iload 5, 2) := by decide +kernel
theorem dX8_insert_94 : decode cX8_insert 94 = .ok (.invokevirtual 61, 3) := by decide +kernel
theorem dX8_insert_97 : decode cX8_insert 97 = .ok (.iload 6, 2) := by decide +kernel
theorem dX8_insert_99 : decode cX8_insert 99 = .ok (.ireturn, 1) := by decide +kernel
theorem dX8_takeOut_0 : decode cX8_takeOut 0 = .ok (.iload_n 1, 1) := by decide +kernel
theorem dX8_takeOut_1 : decode cX8_takeOut 1 = .ok (.ifCond .lt 61, 3) := by decide +kernel
theorem dX8_takeOut_4 : decode cX8_takeOut 4 = .ok (.iload_n 1, 1) := by decide +kernel
theorem dX8_takeOut_5 : decode cX8_takeOut 5 = .ok (.aload_n 0, 1) := by decide +kernel
theorem dX8_takeOut_6 : decode cX8_takeOut 6 = .ok (.getfield 32, 3) := by decide +kernel
theorem dX8_takeOut_9 : decode cX8_takeOut 9 = .ok (.if_icmp .ge 53, 3) := by decide +kernel
theorem dX8_takeOut_12 : decode cX8_takeOut 12 = .ok (.aload_n 0, 1) := by decide +kernel
theorem dX8_takeOut_13 : decode cX8_takeOut 13 = .ok (.getfield 32, 3) := by decide +kernel
theorem dX8_takeOut_16 : decode cX8_takeOut 16 = .ok (.bipush 40, 2) := by decide +kernel
theorem dX8_takeOut_18 : decode cX8_takeOut 18 = .ok (.if_icmp .gt 44, 3) := by decide +kernel
theorem dX8_takeOut_21 : decode cX8_takeOut 21 = .ok (.aload_n 0, 1) := by decide +kernel
theorem dX8_takeOut_22 : decode cX8_takeOut 22 = .ok (.getfield 32, 3) := by decide +kernel
theorem dX8_takeOut_25 : decode cX8_takeOut 25 = .ok (.iconst 1, 1) := by decide +kernel
theorem dX8_takeOut_26 : decode cX8_takeOut 26 = .ok (.isub, 1) := by decide +kernel
theorem dX8_takeOut_27 : decode cX8_takeOut 27 = .ok (.iload_n 1, 1) := by decide +kernel
theorem dX8_takeOut_28 : decode cX8_takeOut 28 = .ok (.isub, 1) := by decide +kernel
theorem dX8_takeOut_29 : decode cX8_takeOut 29 = .ok (.iconst 5, 1) := by decide +kernel
theorem dX8_takeOut_30 : decode cX8_takeOut 30 = .ok (.imul, 1) := by decide +kernel
theorem dX8_takeOut_31 : decode cX8_takeOut 31 = .ok (.istore_n 2, 1) := by decide +kernel
theorem dX8_takeOut_32 : decode cX8_takeOut 32 = .ok (.aload_n 0, 1) := by decide +kernel
theorem dX8_takeOut_33 : decode cX8_takeOut 33 = .ok (.getfield 23, 3) := by decide +kernel
theorem dX8_takeOut_36 : decode cX8_takeOut 36 = .ok (.iload_n 1, 1) := by decide +kernel
theorem dX8_takeOut_37 : decode cX8_takeOut 37 = .ok (.iconst 1, 1) := by decide +kernel
theorem dX8_takeOut_38 : decode cX8_takeOut 38 = .ok (.iadd, 1) := by decide +kernel
theorem dX8_takeOut_39 : decode cX8_takeOut 39 = .ok (.iconst 5, 1) := by decide +kernel
theorem dX8_takeOut_40 : decode cX8_takeOut 40 = .ok (.imul, 1) := by decide +kernel
theorem dX8_takeOut_41 : decode cX8_takeOut 41 = .ok (.aload_n 0, 1) := by decide +kernel
theorem dX8_takeOut_42 : decode cX8_takeOut 42 = .ok (.getfield 23, 3) := by decide +kernel
theorem dX8_takeOut_45 : decode cX8_takeOut 45 = .ok (.iload_n 1, 1) := by decide +kernel
theorem dX8_takeOut_46 : decode cX8_takeOut 46 = .ok (.iconst 5, 1) := by decide +kernel
theorem dX8_takeOut_47 : decode cX8_takeOut 47 = .ok (.imul, 1) := by decide +kernel
theorem dX8_takeOut_48 : decode cX8_takeOut 48 = .ok (.iload_n 2, 1) := by decide +kernel
theorem dX8_takeOut_49 : decode cX8_takeOut 49 = .ok (.invokestatic 26, 3) := by decide +kernel
theorem dX8_takeOut_52 : decode cX8_takeOut 52 = .ok (.aload_n 0, 1) := by decide +kernel
theorem dX8_takeOut_53 : decode cX8_takeOut 53 = .ok (.dup, 1) := by decide +kernel
theorem dX8_takeOut_54 : decode cX8_takeOut 54 = .ok (.getfield 32, 3) := by decide +kernel
theorem dX8_takeOut_57 : decode cX8_takeOut 57 = .ok (.iconst 1, 1) := by decide +kernel
theorem dX8_takeOut_58 : decode cX8_takeOut 58 = .ok (.isub, 1) := by decide +kernel
theorem dX8_takeOut_59 : decode cX8_takeOut 59 = .ok (.putfield 32, 3) := by decide +kernel
theorem dX8_takeOut_62 : decode cX8_takeOut 62 = .ok (.return_, 1) := by decide +kernel
theorem dX8_countUpTo_0 : decode cX8_countUpTo 0 = .ok (.iconst 0, 1) := by decide +kernel
theorem dX8_countUpTo_1 : decode cX8_countUpTo 1 = .ok (.istore_n 3, 1) := by decide +kernel
theorem dX8_countUpTo_2 : decode cX8_countUpTo 2 = .ok (.iload_n 3, 1) := by decide +kernel
theorem dX8_countUpTo_3 : decode cX8_countUpTo 3 = .ok (.aload_n 0, 1) := by decide +kernel
theorem dX8_countUpTo_4 : decode cX8_countUpTo 4 = .ok (.getfield 32, 3) := by decide +kernel
theorem dX8_countUpTo_7 : decode cX8_countUpTo 7 = .ok (.if_icmp .ge 19, 3) := by decide +kernel
theorem dX8_countUpTo_10 : decode cX8_countUpTo 10 = .ok (.aload_n 0, 1) := by decide +kernel
theorem dX8_countUpTo_11 : decode cX8_countUpTo 11 = .ok (.iload_n 3, 1) := by decide +kernel
theorem dX8_countUpTo_12 : decode cX8_countUpTo 12 = .ok (.iload_n 1, 1) := by decide +kernel
theorem dX8_countUpTo_13 : decode cX8_countUpTo 13 = .ok (.iload_n 2, 1) := by decide +kernel
theorem dX8_countUpTo_14 : decode cX8_countUpTo 14 = .ok (.invokevirtual 65, 3) := by decide +kernel
theorem dX8_countUpTo_17 : decode cX8_countUpTo 17 = .ok (.ifCond .eq 9, 3) := by decide +kernel
theorem dX8_countUpTo_20 : decode cX8_countUpTo 20 = .ok (.iinc 3 1, 3) := by decide +kernel
theorem dX8_countUpTo_23 : decode cX8_countUpTo 23 = .ok (.goto (-21), 3) := by decide +kernel
theorem dX8_countUpTo_26 : decode cX8_countUpTo 26 = .ok (.iload_n 3, 1) := by decide +kernel
theorem dX8_countUpTo_27 : decode cX8_countUpTo 27 = .ok (.ireturn, 1) := by decide +kernel
theorem dX8_isAt_0 : decode cX8_isAt 0 = .ok (.aload_n 0, 1) := by decide +kernel
theorem dX8_isAt_1 : decode cX8_isAt 1 = .ok (.iload_n 1, 1) := by decide +kernel
theorem dX8_isAt_2 : decode cX8_isAt 2 = .ok (.iconst 0, 1) := by decide +kernel
theorem dX8_isAt_3 : decode cX8_isAt 3 = .ok (.invokevirtual 69, 3) := by decide +kernel
theorem dX8_isAt_6 : decode cX8_isAt 6 = .ok (.iload_n 2, 1) := by decide +kernel
theorem dX8_isAt_7 : decode cX8_isAt 7 = .ok (.if_icmp .ne 17, 3) := by decide +kernel
theorem dX8_isAt_10 : decode cX8_isAt 10 = .ok (.aload_n 0, 1) := by decide +kernel
theorem dX8_isAt_11 : decode cX8_isAt 11 = .ok (.iload_n 1, 1) := by decide +kernel
theorem dX8_isAt_12 : decode cX8_isAt 12 = .ok (.iconst 1, 1) := by decide +kernel
theorem dX8_isAt_13 : decode cX8_isAt 13 = .ok (.invokevirtual 69, 3) := by decide +kernel
theorem dX8_isAt_16 : decode cX8_isAt 16 = .ok (.iload_n 3, 1) := by decide +kernel
theorem dX8_isAt_17 : decode cX8_isAt 17 = .ok (.if_icmp .ne 7, 3) := by decide +kernel
theorem dX8_isAt_20 : decode cX8_isAt 20 = .ok (.iconst 1, 1) := by decide +kernel
theorem dX8_isAt_21 : decode cX8_isAt 21 = .ok (.goto 4, 3) := by decide +kernel
theorem dX8_isAt_24 : decode cX8_isAt 24 = .ok (.iconst 0, 1) := by decide +kernel
theorem dX8_isAt_25 : decode cX8_isAt 25 = .ok (.ireturn, 1) := by decide +kernel
theorem dX8_tonesOf_0 : decode cX8_tonesOf 0 = .ok (.aload_n 0, 1) := by decide +kernel
theorem dX8_tonesOf_1 : decode cX8_tonesOf 1 = .ok (.iload_n 1, 1) := by decide +kernel
theorem dX8_tonesOf_2 : decode cX8_tonesOf 2 = .ok (.iconst 2, 1) := by decide +kernel
theorem dX8_tonesOf_3 : decode cX8_tonesOf 3 = .ok (.invokevirtual 69, 3) := by decide +kernel
theorem dX8_tonesOf_6 : decode cX8_tonesOf 6 = .ok (.invokestatic 72, 3) := by decide +kernel
theorem dX8_tonesOf_9 : decode cX8_tonesOf 9 = .ok (.istore_n 2, 1) := by decide +kernel
theorem dX8_tonesOf_10 : decode cX8_tonesOf 10 = .ok (.aload_n 0, 1) := by decide +kernel
theorem dX8_tonesOf_11 : decode cX8_tonesOf 11 = .ok (.iload_n 1, 1) := by decide +kernel
theorem dX8_tonesOf_12 : decode cX8_tonesOf 12 = .ok (.iconst 3, 1) := by decide +kernel
theorem dX8_tonesOf_13 : decode cX8_tonesOf 13 = .ok (.invokevirtual 69, 3) := by decide +kernel
theorem dX8_tonesOf_16 : decode cX8_tonesOf 16 = .ok (.invokestatic 77, 3) := by decide +kernel
theorem dX8_tonesOf_19 : decode cX8_tonesOf 19 = .ok (.iload_n 2, 1) := by decide +kernel
theorem dX8_tonesOf_20 : decode cX8_tonesOf 20 = .ok (.invokevirtual 83, 3) := by decide +kernel
theorem dX8_tonesOf_23 : decode cX8_tonesOf 23 = .ok (.istore_n 3, 1) := by decide +kernel
theorem dX8_tonesOf_24 : decode cX8_tonesOf 24 = .ok (.aload_n 0, 1) := by decide +kernel
theorem dX8_tonesOf_25 : decode cX8_tonesOf 25 = .ok (.iload_n 1, 1) := by decide +kernel
theorem dX8_tonesOf_26 : decode cX8_tonesOf 26 = .ok (.iconst 4, 1) := by decide +kernel
theorem dX8_tonesOf_27 : decode cX8_tonesOf 27 = .ok (.invokevirtual 69, 3) := by decide +kernel
theorem dX8_tonesOf_30 : decode cX8_tonesOf 30 = .ok (.istore 4, 2) := by decide +kernel
theorem dX8_tonesOf_32 : decode cX8_tonesOf 32 = .ok (.iload 4, 2) := by decide +kernel
theorem dX8_tonesOf_34 : decode cX8_tonesOf 34 = .ok (.bipush 100, 2) := by decide +kernel
theorem dX8_tonesOf_36 : decode cX8_tonesOf 36 = .ok (.if_icmp .ne 7, 3) := by decide +kernel
theorem dX8_tonesOf_39 : decode cX8_tonesOf 39 = .ok (.iload_n 3, 1) := by decide +kernel
theorem dX8_tonesOf_40 : decode cX8_tonesOf 40 = .ok (.goto 12, 3) := by decide +kernel
theorem dX8_tonesOf_43 : decode cX8_tonesOf 43 = .ok (.iload_n 3, 1) := by decide +kernel
theorem dX8_tonesOf_44 : decode cX8_tonesOf 44 = .ok (.iconst 1, 1) := by decide +kernel
theorem dX8_tonesOf_45 : decode cX8_tonesOf 45 = .ok (.iload 4, 2) := by decide +kernel
theorem dX8_tonesOf_47 : decode cX8_tonesOf 47 = .ok (.invokestatic 72, 3) := by decide +kernel
theorem dX8_tonesOf_50 : decode cX8_tonesOf 50 = .ok (.ishl, 1) := by decide +kernel
theorem dX8_tonesOf_51 : decode cX8_tonesOf 51 = .ok (.ior, 1) := by decide +kernel
theorem dX8_tonesOf_52 : decode cX8_tonesOf 52 = .ok (.ireturn, 1) := by decide +kernel
theorem dX8_writeName_0 : decode cX8_writeName 0 = .ok (.aload_n 0, 1) := by decide +kernel
theorem dX8_writeName_1 : decode cX8_writeName 1 = .ok (.iload_n 1, 1) := by decide +kernel
theorem dX8_writeName_2 : decode cX8_writeName 2 = .ok (.iconst 2, 1) := by decide +kernel
theorem dX8_writeName_3 : decode cX8_writeName 3 = .ok (.invokevirtual 69, 3) := by decide +kernel
theorem dX8_writeName_6 : decode cX8_writeName 6 = .ok (.aload_n 2, 1) := by decide +kernel
theorem dX8_writeName_7 : decode cX8_writeName 7 = .ok (.invokestatic 86, 3) := by decide +kernel
theorem dX8_writeName_10 : decode cX8_writeName 10 = .ok (.aload_n 2, 1) := by decide +kernel
theorem dX8_writeName_11 : decode cX8_writeName 11 = .ok (.aload_n 0, 1) := by decide +kernel
theorem dX8_writeName_12 : decode cX8_writeName 12 = .ok (.iload_n 1, 1) := by decide +kernel
theorem dX8_writeName_13 : decode cX8_writeName 13 = .ok (.iconst 3, 1) := by decide +kernel
theorem dX8_writeName_14 : decode cX8_writeName 14 = .ok (.invokevirtual 69, 3) := by decide +kernel
theorem dX8_writeName_17 : decode cX8_writeName 17 = .ok (.invokestatic 77, 3) := by decide +kernel
theorem dX8_writeName_20 : decode cX8_writeName 20 = .ok (.getfield 90, 3) := by decide +kernel
theorem dX8_writeName_23 : decode cX8_writeName 23 = .ok (.invokevirtual 94, 3) := by decide +kernel
theorem dX8_writeName_26 : decode cX8_writeName 26 = .ok (.aload_n 0, 1) := by decide +kernel
theorem dX8_writeName_27 : decode cX8_writeName 27 = .ok (.iload_n 1, 1) := by decide +kernel
theorem dX8_writeName_28 : decode cX8_writeName 28 = .ok (.iconst 4, 1) := by decide +kernel
theorem dX8_writeName_29 : decode cX8_writeName 29 = .ok (.invokevirtual 69, 3) := by decide +kernel
theorem dX8_writeName_32 : decode cX8_writeName 32 = .ok (.istore_n 3, 1) := by decide +kernel
theorem dX8_writeName_33 : decode cX8_writeName 33 = .ok (.iload_n 3, 1) := by decide +kernel
theorem dX8_writeName_34 : decode cX8_writeName 34 = .ok (.bipush 100, 2) := by decide +kernel
theorem dX8_writeName_36 : decode cX8_writeName 36 = .ok (.if_icmp .eq 14, 3) := by decide +kernel
theorem dX8_writeName_39 : decode cX8_writeName 39 = .ok (.aload_n 2, 1) := by decide +kernel
theorem dX8_writeName_40 : decode cX8_writeName 40 = .ok (.bipush 47, 2) := by decide +kernel
theorem dX8_writeName_42 : decode cX8_writeName 42 = .ok (.invokevirtual 100, 3) := by decide +kernel
theorem dX8_writeName_45 : decode cX8_writeName 45 = .ok (.iload_n 3, 1) := by decide +kernel
theorem dX8_writeName_46 : decode cX8_writeName 46 = .ok (.aload_n 2, 1) := by decide +kernel
theorem dX8_writeName_47 : decode cX8_writeName 47 = .ok (.invokestatic 86, 3) := by decide +kernel
theorem dX8_writeName_50 : decode cX8_writeName 50 = .ok (.return_, 1) := by decide +kernel
theorem dX8_spell_0 : decode cX8_spell 0 = .ok (.iconst 0, 1) := by decide +kernel
theorem dX8_spell_1 : decode cX8_spell 1 = .ok (.istore_n 3, 1) := by decide +kernel
theorem dX8_spell_2 : decode cX8_spell 2 = .ok (.iconst 0, 1) := by decide +kernel
theorem dX8_spell_3 : decode cX8_spell 3 = .ok (.istore 4, 2) := by decide +kernel
theorem dX8_spell_5 : decode cX8_spell 5 = .ok (.iload 4, 2) := by decide +kernel
theorem dX8_spell_7 : decode cX8_spell 7 = .ok (.aload_n 0, 1) := by decide +kernel
theorem dX8_spell_8 : decode cX8_spell 8 = .ok (.getfield 32, 3) := by decide +kernel
theorem dX8_spell_11 : decode cX8_spell 11 = .ok (.if_icmp .ge 33, 3) := by decide +kernel
theorem dX8_spell_14 : decode cX8_spell 14 = .ok (.iload_n 3, 1) := by decide +kernel
theorem dX8_spell_15 : decode cX8_spell 15 = .ok (.aload_n 0, 1) := by decide +kernel
theorem dX8_spell_16 : decode cX8_spell 16 = .ok (.iload 4, 2) := by decide +kernel
theorem dX8_spell_18 : decode cX8_spell 18 = .ok (.iconst 2, 1) := by decide +kernel
theorem dX8_spell_19 : decode cX8_spell 19 = .ok (.iload_n 1, 1) := by decide +kernel
theorem dX8_spell_20 : decode cX8_spell 20 = .ok (.iload_n 2, 1) := by decide +kernel
theorem dX8_spell_21 : decode cX8_spell 21 = .ok (.invokevirtual 104, 3) := by decide +kernel
theorem dX8_spell_24 : decode cX8_spell 24 = .ok (.iadd, 1) := by decide +kernel
theorem dX8_spell_25 : decode cX8_spell 25 = .ok (.istore_n 3, 1) := by decide +kernel
theorem dX8_spell_26 : decode cX8_spell 26 = .ok (.iload_n 3, 1) := by decide +kernel
theorem dX8_spell_27 : decode cX8_spell 27 = .ok (.aload_n 0, 1) := by decide +kernel
theorem dX8_spell_28 : decode cX8_spell 28 = .ok (.iload 4, 2) := by decide +kernel
theorem dX8_spell_30 : decode cX8_spell 30 = .ok (.iconst 4, 1) := by decide +kernel
theorem dX8_spell_31 : decode cX8_spell 31 = .ok (.iload_n 1, 1) := by decide +kernel
theorem dX8_spell_32 : decode cX8_spell 32 = .ok (.iload_n 2, 1) := by decide +kernel
theorem dX8_spell_33 : decode cX8_spell 33 = .ok (.invokevirtual 104, 3) := by decide +kernel
theorem dX8_spell_36 : decode cX8_spell 36 = .ok (.iadd, 1) := by decide +kernel
theorem dX8_spell_37 : decode cX8_spell 37 = .ok (.istore_n 3, 1) := by decide +kernel
theorem dX8_spell_38 : decode cX8_spell 38 = .ok (.iinc 4 1, 3) := by decide +kernel
theorem dX8_spell_41 : decode cX8_spell 41 = .ok (.goto (-36), 3) := by decide +kernel
theorem dX8_spell_44 : decode cX8_spell 44 = .ok (.iload_n 3, 1) := by decide +kernel
theorem dX8_spell_45 : decode cX8_spell 45 = .ok (.ireturn, 1) := by decide +kernel
theorem dX8_addTo_0 : decode cX8_addTo 0 = .ok (.ldc2_w 108, 3) := by decide +kernel
theorem dX8_addTo_3 : decode cX8_addTo 3 = .ok (.lload_n 1, 1) := by decide +kernel
theorem dX8_addTo_4 : decode cX8_addTo 4 = .ok (.lmul, 1) := by decide +kernel
theorem dX8_addTo_5 : decode cX8_addTo 5 = .ok (.aload_n 0, 1) := by decide +kernel
theorem dX8_addTo_6 : decode cX8_addTo 6 = .ok (.getfield 19, 3) := by decide +kernel
theorem dX8_addTo_9 : decode cX8_addTo 9 = .ok (.i2l, 1) := by decide +kernel
theorem dX8_addTo_10 : decode cX8_addTo 10 = .ok (.ladd, 1) := by decide +kernel
theorem dX8_addTo_11 : decode cX8_addTo 11 = .ok (.lstore_n 3, 1) := by decide +kernel
theorem dX8_addTo_12 : decode cX8_addTo 12 = .ok (.iconst 0, 1) := by decide +kernel
theorem dX8_addTo_13 : decode cX8_addTo 13 = .ok (.istore 5, 2) := by decide +kernel
theorem dX8_addTo_15 : decode cX8_addTo 15 = .ok (.iload 5, 2) := by decide +kernel
theorem dX8_addTo_17 : decode cX8_addTo 17 = .ok (.aload_n 0, 1) := by decide +kernel
theorem dX8_addTo_18 : decode cX8_addTo 18 = .ok (.getfield 19, 3) := by decide +kernel
theorem dX8_addTo_21 : decode cX8_addTo 21 = .ok (.if_icmp .ge 59, 3) := by decide +kernel
theorem dX8_addTo_24 : decode cX8_addTo 24 = .ok (.aload_n 0, 1) := by decide +kernel
theorem dX8_addTo_25 : decode cX8_addTo 25 = .ok (.iload 5, 2) := by decide +kernel
theorem dX8_addTo_27 : decode cX8_addTo 27 = .ok (.invokevirtual 50, 3) := by decide +kernel
theorem dX8_addTo_30 : decode cX8_addTo 30 = .ok (.istore 6, 2) := by decide +kernel
theorem dX8_addTo_32 : decode cX8_addTo 32 = .ok (.ldc2_w 108, 3) := by decide +kernel
theorem dX8_addTo_35 : decode cX8_addTo 35 = .ok (.lload_n 3, 1) := by decide +kernel
theorem dX8_addTo_36 : decode cX8_addTo 36 = .ok (.lmul, 1) := by decide +kernel
theorem dX8_addTo_37 : decode cX8_addTo 37 = .ok (.iload 6, 2) := by decide +kernel
theorem dX8_addTo_39 : decode cX8_addTo 39 = .ok (.i2l, 1) := by decide +kernel
theorem dX8_addTo_40 : decode cX8_addTo 40 = .ok (.ladd, 1) := by decide +kernel
theorem dX8_addTo_41 : decode cX8_addTo 41 = .ok (.lstore_n 3, 1) := by decide +kernel
theorem dX8_addTo_42 : decode cX8_addTo 42 = .ok (.iconst 0, 1) := by decide +kernel
theorem dX8_addTo_43 : decode cX8_addTo 43 = .ok (.istore 7, 2) := by decide +kernel
theorem dX8_addTo_45 : decode cX8_addTo 45 = .ok (.iload 7, 2) := by decide +kernel
theorem dX8_addTo_47 : decode cX8_addTo 47 = .ok (.iload 6, 2) := by decide +kernel
theorem dX8_addTo_49 : decode cX8_addTo 49 = .ok (.if_icmp .ge 25, 3) := by decide +kernel
theorem dX8_addTo_52 : decode cX8_addTo 52 = .ok (.ldc2_w 108, 3) := by decide +kernel
theorem dX8_addTo_55 : decode cX8_addTo 55 = .ok (.lload_n 3, 1) := by decide +kernel
theorem dX8_addTo_56 : decode cX8_addTo 56 = .ok (.lmul, 1) := by decide +kernel
theorem dX8_addTo_57 : decode cX8_addTo 57 = .ok (.aload_n 0, 1) := by decide +kernel
theorem dX8_addTo_58 : decode cX8_addTo 58 = .ok (.iload 5, 2) := by decide +kernel
theorem dX8_addTo_60 : decode cX8_addTo 60 = .ok (.iload 7, 2) := by decide +kernel
theorem dX8_addTo_62 : decode cX8_addTo 62 = .ok (.invokevirtual 110, 3) := by decide +kernel
theorem dX8_addTo_65 : decode cX8_addTo 65 = .ok (.i2l, 1) := by decide +kernel
theorem dX8_addTo_66 : decode cX8_addTo 66 = .ok (.ladd, 1) := by decide +kernel
theorem dX8_addTo_67 : decode cX8_addTo 67 = .ok (.lstore_n 3, 1) := by decide +kernel
theorem dX8_addTo_68 : decode cX8_addTo 68 = .ok (.iinc 7 1, 3) := by decide +kernel
theorem dX8_addTo_71 : decode cX8_addTo 71 = .ok (.goto (-26), 3) := by decide +kernel
theorem dX8_addTo_74 : decode cX8_addTo 74 = .ok (.iinc 5 1, 3) := by decide +kernel
theorem dX8_addTo_77 : decode cX8_addTo 77 = .ok (.goto (-62), 3) := by decide +kernel
theorem dX8_addTo_80 : decode cX8_addTo 80 = .ok (.iconst 0, 1) := by decide +kernel
theorem dX8_addTo_81 : decode cX8_addTo 81 = .ok (.istore 5, 2) := by decide +kernel
theorem dX8_addTo_83 : decode cX8_addTo 83 = .ok (.iload 5, 2) := by decide +kernel
theorem dX8_addTo_85 : decode cX8_addTo 85 = .ok (.aload_n 0, 1) := by decide +kernel
theorem dX8_addTo_86 : decode cX8_addTo 86 = .ok (.getfield 32, 3) := by decide +kernel
theorem dX8_addTo_89 : decode cX8_addTo 89 = .ok (.if_icmp .ge 40, 3) := by decide +kernel
theorem dX8_addTo_92 : decode cX8_addTo 92 = .ok (.iconst 0, 1) := by decide +kernel
theorem dX8_addTo_93 : decode cX8_addTo 93 = .ok (.istore 6, 2) := by decide +kernel
theorem dX8_addTo_95 : decode cX8_addTo 95 = .ok (.iload 6, 2) := by decide +kernel
theorem dX8_addTo_97 : decode cX8_addTo 97 = .ok (.iconst 5, 1) := by decide +kernel
theorem dX8_addTo_98 : decode cX8_addTo 98 = .ok (.if_icmp .ge 25, 3) := by decide +kernel
theorem dX8_addTo_101 : decode cX8_addTo 101 = .ok (.ldc2_w 108, 3) := by decide +kernel
theorem dX8_addTo_104 : decode cX8_addTo 104 = .ok (.lload_n 3, 1) := by decide +kernel
theorem dX8_addTo_105 : decode cX8_addTo 105 = .ok (.lmul, 1) := by decide +kernel
theorem dX8_addTo_106 : decode cX8_addTo 106 = .ok (.aload_n 0, 1) := by decide +kernel
theorem dX8_addTo_107 : decode cX8_addTo 107 = .ok (.iload 5, 2) := by decide +kernel
theorem dX8_addTo_109 : decode cX8_addTo 109 = .ok (.iload 6, 2) := by decide +kernel
theorem dX8_addTo_111 : decode cX8_addTo 111 = .ok (.invokevirtual 69, 3) := by decide +kernel
theorem dX8_addTo_114 : decode cX8_addTo 114 = .ok (.i2l, 1) := by decide +kernel
theorem dX8_addTo_115 : decode cX8_addTo 115 = .ok (.ladd, 1) := by decide +kernel
theorem dX8_addTo_116 : decode cX8_addTo 116 = .ok (.lstore_n 3, 1) := by decide +kernel
theorem dX8_addTo_117 : decode cX8_addTo 117 = .ok (.iinc 6 1, 3) := by decide +kernel
theorem dX8_addTo_120 : decode cX8_addTo 120 = .ok (.goto (-25), 3) := by decide +kernel
theorem dX8_addTo_123 : decode cX8_addTo 123 = .ok (.iinc 5 1, 3) := by decide +kernel
theorem dX8_addTo_126 : decode cX8_addTo 126 = .ok (.goto (-43), 3) := by decide +kernel
theorem dX8_addTo_129 : decode cX8_addTo 129 = .ok (.lload_n 3, 1) := by decide +kernel
theorem dX8_addTo_130 : decode cX8_addTo 130 = .ok (.lreturn, 1) := by decide +kernel
theorem dX8_spellField_0 : decode cX8_spellField 0 = .ok (.aload_n 0, 1) := by decide +kernel
theorem dX8_spellField_1 : decode cX8_spellField 1 = .ok (.iload_n 1, 1) := by decide +kernel
theorem dX8_spellField_2 : decode cX8_spellField 2 = .ok (.iload_n 2, 1) := by decide +kernel
theorem dX8_spellField_3 : decode cX8_spellField 3 = .ok (.invokevirtual 69, 3) := by decide +kernel
theorem dX8_spellField_6 : decode cX8_spellField 6 = .ok (.istore 5, 2) := by decide +kernel
theorem dX8_spellField_8 : decode cX8_spellField 8 = .ok (.iload 5, 2) := by decide +kernel
theorem dX8_spellField_10 : decode cX8_spellField 10 = .ok (.bipush 100, 2) := by decide +kernel
theorem dX8_spellField_12 : decode cX8_spellField 12 = .ok (.if_icmp .ne 5, 3) := by decide +kernel
theorem dX8_spellField_15 : decode cX8_spellField 15 = .ok (.iconst 0, 1) := by decide +kernel
theorem dX8_spellField_16 : decode cX8_spellField 16 = .ok (.ireturn, 1) := by decide +kernel
theorem dX8_spellField_17 : decode cX8_spellField 17 = .ok (.iload 5, 2) := by decide +kernel
theorem dX8_spellField_19 : decode cX8_spellField 19 = .ok (.iload_n 3, 1) := by decide +kernel
theorem dX8_spellField_20 : decode cX8_spellField 20 = .ok (.invokestatic 113, 3) := by decide +kernel
theorem dX8_spellField_23 : decode cX8_spellField 23 = .ok (.istore 6, 2) := by decide +kernel
theorem dX8_spellField_25 : decode cX8_spellField 25 = .ok (.iload 6, 2) := by decide +kernel
theorem dX8_spellField_27 : decode cX8_spellField 27 = .ok (.aload_n 0, 1) := by decide +kernel
theorem dX8_spellField_28 : decode cX8_spellField 28 = .ok (.getfield 35, 3) := by decide +kernel
theorem dX8_spellField_31 : decode cX8_spellField 31 = .ok (.iload 4, 2) := by decide +kernel
theorem dX8_spellField_33 : decode cX8_spellField 33 = .ok (.invokestatic 116, 3) := by decide +kernel
theorem dX8_spellField_36 : decode cX8_spellField 36 = .ok (.istore 7, 2) := by decide +kernel
theorem dX8_spellField_38 : decode cX8_spellField 38 = .ok (.aload_n 0, 1) := by decide +kernel
theorem dX8_spellField_39 : decode cX8_spellField 39 = .ok (.iload_n 1, 1) := by decide +kernel
theorem dX8_spellField_40 : decode cX8_spellField 40 = .ok (.iload_n 2, 1) := by decide +kernel
theorem dX8_spellField_41 : decode cX8_spellField 41 = .ok (.iload 7, 2) := by decide +kernel
theorem dX8_spellField_43 : decode cX8_spellField 43 = .ok (.invokevirtual 46, 3) := by decide +kernel
theorem dX8_spellField_46 : decode cX8_spellField 46 = .ok (.iload 7, 2) := by decide +kernel
theorem dX8_spellField_48 : decode cX8_spellField 48 = .ok (.iload 5, 2) := by decide +kernel
theorem dX8_spellField_50 : decode cX8_spellField 50 = .ok (.if_icmp .ne 7, 3) := by decide +kernel
theorem dX8_spellField_53 : decode cX8_spellField 53 = .ok (.iconst 0, 1) := by decide +kernel
theorem dX8_spellField_54 : decode cX8_spellField 54 = .ok (.goto 4, 3) := by decide +kernel
theorem dX8_spellField_57 : decode cX8_spellField 57 = .ok (.iconst 1, 1) := by decide +kernel
theorem dX8_spellField_58 : decode cX8_spellField 58 = .ok (.ireturn, 1) := by decide +kernel
theorem dX8_startOf_0 : decode cX8_startOf 0 = .ok (.iload_n 1, 1) := by decide +kernel
theorem dX8_startOf_1 : decode cX8_startOf 1 = .ok (.ifCond .lt 21, 3) := by decide +kernel
theorem dX8_startOf_4 : decode cX8_startOf 4 = .ok (.iload_n 1, 1) := by decide +kernel
theorem dX8_startOf_5 : decode cX8_startOf 5 = .ok (.aload_n 0, 1) := by decide +kernel
theorem dX8_startOf_6 : decode cX8_startOf 6 = .ok (.getfield 15, 3) := by decide +kernel
theorem dX8_startOf_9 : decode cX8_startOf 9 = .ok (.arraylength, 1) := by decide +kernel
theorem dX8_startOf_10 : decode cX8_startOf 10 = .ok (.if_icmp .ge 12, 3) := by decide +kernel
theorem dX8_startOf_13 : decode cX8_startOf 13 = .ok (.aload_n 0, 1) := by decide +kernel
theorem dX8_startOf_14 : decode cX8_startOf 14 = .ok (.getfield 15, 3) := by decide +kernel
theorem dX8_startOf_17 : decode cX8_startOf 17 = .ok (.iload_n 1, 1) := by decide +kernel
theorem dX8_startOf_18 : decode cX8_startOf 18 = .ok (.iaload, 1) := by decide +kernel
theorem dX8_startOf_19 : decode cX8_startOf 19 = .ok (.goto 4, 3) := by decide +kernel
theorem dX8_startOf_22 : decode cX8_startOf 22 = .ok (.iconst 0, 1) := by decide +kernel
theorem dX8_startOf_23 : decode cX8_startOf 23 = .ok (.ireturn, 1) := by decide +kernel
theorem dX8_set_0 : decode cX8_set 0 = .ok (.iload_n 1, 1) := by decide +kernel
theorem dX8_set_1 : decode cX8_set 1 = .ok (.iconst 5, 1) := by decide +kernel
theorem dX8_set_2 : decode cX8_set 2 = .ok (.imul, 1) := by decide +kernel
theorem dX8_set_3 : decode cX8_set 3 = .ok (.iload_n 2, 1) := by decide +kernel
theorem dX8_set_4 : decode cX8_set 4 = .ok (.iadd, 1) := by decide +kernel
theorem dX8_set_5 : decode cX8_set 5 = .ok (.istore 4, 2) := by decide +kernel
theorem dX8_set_7 : decode cX8_set 7 = .ok (.iload 4, 2) := by decide +kernel
theorem dX8_set_9 : decode cX8_set 9 = .ok (.ifCond .lt 21, 3) := by decide +kernel
theorem dX8_set_12 : decode cX8_set 12 = .ok (.iload 4, 2) := by decide +kernel
theorem dX8_set_14 : decode cX8_set 14 = .ok (.aload_n 0, 1) := by decide +kernel
theorem dX8_set_15 : decode cX8_set 15 = .ok (.getfield 23, 3) := by decide +kernel
theorem dX8_set_18 : decode cX8_set 18 = .ok (.arraylength, 1) := by decide +kernel
theorem dX8_set_19 : decode cX8_set 19 = .ok (.if_icmp .ge 11, 3) := by decide +kernel
theorem dX8_set_22 : decode cX8_set 22 = .ok (.aload_n 0, 1) := by decide +kernel
theorem dX8_set_23 : decode cX8_set 23 = .ok (.getfield 23, 3) := by decide +kernel
theorem dX8_set_26 : decode cX8_set 26 = .ok (.iload 4, 2) := by decide +kernel
theorem dX8_set_28 : decode cX8_set 28 = .ok (.iload_n 3, 1) := by decide +kernel
theorem dX8_set_29 : decode cX8_set 29 = .ok (.iastore, 1) := by decide +kernel
theorem dX8_set_30 : decode cX8_set 30 = .ok (.return_, 1) := by decide +kernel
theorem dX8_isUpTo_0 : decode cX8_isUpTo 0 = .ok (.aload_n 0, 1) := by decide +kernel
theorem dX8_isUpTo_1 : decode cX8_isUpTo 1 = .ok (.iload_n 1, 1) := by decide +kernel
theorem dX8_isUpTo_2 : decode cX8_isUpTo 2 = .ok (.iconst 0, 1) := by decide +kernel
theorem dX8_isUpTo_3 : decode cX8_isUpTo 3 = .ok (.invokevirtual 69, 3) := by decide +kernel
theorem dX8_isUpTo_6 : decode cX8_isUpTo 6 = .ok (.istore 4, 2) := by decide +kernel
theorem dX8_isUpTo_8 : decode cX8_isUpTo 8 = .ok (.iload 4, 2) := by decide +kernel
theorem dX8_isUpTo_10 : decode cX8_isUpTo 10 = .ok (.iload_n 2, 1) := by decide +kernel
theorem dX8_isUpTo_11 : decode cX8_isUpTo 11 = .ok (.if_icmp .lt 19, 3) := by decide +kernel
theorem dX8_isUpTo_14 : decode cX8_isUpTo 14 = .ok (.iload 4, 2) := by decide +kernel
theorem dX8_isUpTo_16 : decode cX8_isUpTo 16 = .ok (.iload_n 2, 1) := by decide +kernel
theorem dX8_isUpTo_17 : decode cX8_isUpTo 17 = .ok (.if_icmp .ne 17, 3) := by decide +kernel
theorem dX8_isUpTo_20 : decode cX8_isUpTo 20 = .ok (.aload_n 0, 1) := by decide +kernel
theorem dX8_isUpTo_21 : decode cX8_isUpTo 21 = .ok (.iload_n 1, 1) := by decide +kernel
theorem dX8_isUpTo_22 : decode cX8_isUpTo 22 = .ok (.iconst 1, 1) := by decide +kernel
theorem dX8_isUpTo_23 : decode cX8_isUpTo 23 = .ok (.invokevirtual 69, 3) := by decide +kernel
theorem dX8_isUpTo_26 : decode cX8_isUpTo 26 = .ok (.iload_n 3, 1) := by decide +kernel
theorem dX8_isUpTo_27 : decode cX8_isUpTo 27 = .ok (.if_icmp .gt 7, 3) := by decide +kernel
theorem dX8_isUpTo_30 : decode cX8_isUpTo 30 = .ok (.iconst 1, 1) := by decide +kernel
theorem dX8_isUpTo_31 : decode cX8_isUpTo 31 = .ok (.goto 4, 3) := by decide +kernel
theorem dX8_isUpTo_34 : decode cX8_isUpTo 34 = .ok (.iconst 0, 1) := by decide +kernel
theorem dX8_isUpTo_35 : decode cX8_isUpTo 35 = .ok (.ireturn, 1) := by decide +kernel
