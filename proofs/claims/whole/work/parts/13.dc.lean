theorem dX0_init_0 : decode cX0_init 0 = .ok (.aload_n 0, 1) := by decide +kernel
theorem dX0_init_1 : decode cX0_init 1 = .ok (.invokespecial 3, 3) := by decide +kernel
theorem dX0_init_4 : decode cX0_init 4 = .ok (.aload_n 0, 1) := by decide +kernel
theorem dX0_init_5 : decode cX0_init 5 = .ok (.sipush 200, 3) := by decide +kernel
theorem dX0_init_8 : decode cX0_init 8 = .ok (.anewarray 9, 3) := by decide +kernel
theorem dX0_init_11 : decode cX0_init 11 = .ok (.putfield 11, 3) := by decide +kernel
theorem dX0_init_14 : decode cX0_init 14 = .ok (.aload_n 0, 1) := by decide +kernel
theorem dX0_init_15 : decode cX0_init 15 = .ok (.sipush 200, 3) := by decide +kernel
theorem dX0_init_18 : decode cX0_init 18 = .ok (.anewarray 9, 3) := by decide +kernel
theorem dX0_init_21 : decode cX0_init 21 = .ok (.putfield 17, 3) := by decide +kernel
theorem dX0_init_24 : decode cX0_init 24 = .ok (.aload_n 0, 1) := by decide +kernel
theorem dX0_init_25 : decode cX0_init 25 = .ok (.new 20, 3) := by decide +kernel
theorem dX0_init_28 : decode cX0_init 28 = .ok (.dup, 1) := by decide +kernel
theorem dX0_init_29 : decode cX0_init 29 = .ok (.aload_n 1, 1) := by decide +kernel
theorem dX0_init_30 : decode cX0_init 30 = .ok (.aload_n 2, 1) := by decide +kernel
theorem dX0_init_31 : decode cX0_init 31 = .ok (.invokespecial 22, 3) := by decide +kernel
theorem dX0_init_34 : decode cX0_init 34 = .ok (.putfield 25, 3) := by decide +kernel
theorem dX0_init_37 : decode cX0_init 37 = .ok (.return_, 1) := by decide +kernel
theorem dX0_isLiving_0 : decode cX0_isLiving 0 = .ok (.iload_n 1, 1) := by decide +kernel
theorem dX0_isLiving_1 : decode cX0_isLiving 1 = .ok (.aload_n 0, 1) := by decide +kernel
theorem dX0_isLiving_2 : decode cX0_isLiving 2 = .ok (.getfield 29, 3) := by decide +kernel
theorem dX0_isLiving_5 : decode cX0_isLiving 5 = .ok (.invokestatic 33, 3) := by decide +kernel
theorem dX0_isLiving_8 : decode cX0_isLiving 8 = .ok (.ifCond .eq 16, 3) := by decide +kernel
theorem dX0_isLiving_11 : decode cX0_isLiving 11 = .ok (.aload_n 0, 1) := by decide +kernel
theorem dX0_isLiving_12 : decode cX0_isLiving 12 = .ok (.getfield 11, 3) := by decide +kernel
theorem dX0_isLiving_15 : decode cX0_isLiving 15 = .ok (.iload_n 1, 1) := by decide +kernel
theorem dX0_isLiving_16 : decode cX0_isLiving 16 = .ok (.aaload, 1) := by decide +kernel
theorem dX0_isLiving_17 : decode cX0_isLiving 17 = .ok (.ifnull 7, 3) := by decide +kernel
theorem dX0_isLiving_20 : decode cX0_isLiving 20 = .ok (.iconst 1, 1) := by decide +kernel
theorem dX0_isLiving_21 : decode cX0_isLiving 21 = .ok (.goto 4, 3) := by decide +kernel
theorem dX0_isLiving_24 : decode cX0_isLiving 24 = .ok (.iconst 0, 1) := by decide +kernel
theorem dX0_isLiving_25 : decode cX0_isLiving 25 = .ok (.ireturn, 1) := by decide +kernel
theorem dX0_add_0 : decode cX0_add 0 = .ok (.aload_n 0, 1) := by decide +kernel
theorem dX0_add_1 : decode cX0_add 1 = .ok (.getfield 29, 3) := by decide +kernel
theorem dX0_add_4 : decode cX0_add 4 = .ok (.sipush 200, 3) := by decide +kernel
theorem dX0_add_7 : decode cX0_add 7 = .ok (.if_icmp .ge 21, 3) := by decide +kernel
theorem dX0_add_10 : decode cX0_add 10 = .ok (.aload_n 1, 1) := by decide +kernel
theorem dX0_add_11 : decode cX0_add 11 = .ok (.invokevirtual 37, 3) := by decide +kernel
theorem dX0_add_14 : decode cX0_add 14 = .ok (.ifCond .eq 16, 3) := by decide +kernel
theorem dX0_add_17 : decode cX0_add 17 = .ok (.aload_n 0, 1) := by decide +kernel
theorem dX0_add_18 : decode cX0_add 18 = .ok (.aload_n 1, 1) := by decide +kernel
theorem dX0_add_19 : decode cX0_add 19 = .ok (.getfield 41, 3) := by decide +kernel
theorem dX0_add_22 : decode cX0_add 22 = .ok (.invokevirtual 44, 3) := by decide +kernel
theorem dX0_add_25 : decode cX0_add 25 = .ok (.ifCond .eq 5, 3) := by decide +kernel
theorem dX0_add_28 : decode cX0_add 28 = .ok (.iconst (-1), 1) := by decide +kernel
theorem dX0_add_29 : decode cX0_add 29 = .ok (.ireturn, 1) := by decide +kernel
theorem dX0_add_30 : decode cX0_add 30 = .ok (.aload_n 1, 1) := by decide +kernel
theorem dX0_add_31 : decode cX0_add 31 = .ok (.aload_n 0, 1) := by decide +kernel
theorem dX0_add_32 : decode cX0_add 32 = .ok (.getfield 29, 3) := by decide +kernel
theorem dX0_add_35 : decode cX0_add 35 = .ok (.putfield 48, 3) := by decide +kernel
theorem dX0_add_38 : decode cX0_add 38 = .ok (.aload_n 0, 1) := by decide +kernel
theorem dX0_add_39 : decode cX0_add 39 = .ok (.aload_n 1, 1) := by decide +kernel
theorem dX0_add_40 : decode cX0_add 40 = .ok (.invokevirtual 51, 3) := by decide +kernel
theorem dX0_add_43 : decode cX0_add 43 = .ok (.aload_n 1, 1) := by decide +kernel
theorem dX0_add_44 : decode cX0_add 44 = .ok (.invokevirtual 37, 3) := by decide +kernel
theorem dX0_add_47 : decode cX0_add 47 = .ok (.ifCond .eq 17, 3) := by decide +kernel
theorem dX0_add_50 : decode cX0_add 50 = .ok (.aload_n 0, 1) := by decide +kernel
theorem dX0_add_51 : decode cX0_add 51 = .ok (.invokevirtual 55, 3) := by decide +kernel
theorem dX0_add_54 : decode cX0_add 54 = .ok (.ifCond .ne 10, 3) := by decide +kernel
theorem dX0_add_57 : decode cX0_add 57 = .ok (.aload_n 0, 1) := by decide +kernel
theorem dX0_add_58 : decode cX0_add 58 = .ok (.aload_n 1, 1) := by decide +kernel
theorem dX0_add_59 : decode cX0_add 59 = .ok (.invokevirtual 58, 3) := by decide +kernel
theorem dX0_add_62 : decode cX0_add 62 = .ok (.iconst (-1), 1) := by decide +kernel
theorem dX0_add_63 : decode cX0_add 63 = .ok (.ireturn, 1) := by decide +kernel
theorem dX0_add_64 : decode cX0_add 64 = .ok (.aload_n 0, 1) := by decide +kernel
theorem dX0_add_65 : decode cX0_add 65 = .ok (.getfield 11, 3) := by decide +kernel
theorem dX0_add_68 : decode cX0_add 68 = .ok (.aload_n 0, 1) := by decide +kernel
theorem dX0_add_69 : decode cX0_add 69 = .ok (.getfield 29, 3) := by decide +kernel
theorem dX0_add_72 : decode cX0_add 72 = .ok (.aload_n 1, 1) := by decide +kernel
theorem dX0_add_73 : decode cX0_add 73 = .ok (.aastore, 1) := by decide +kernel
theorem dX0_add_74 : decode cX0_add 74 = .ok (.aload_n 0, 1) := by decide +kernel
theorem dX0_add_75 : decode cX0_add 75 = .ok (.dup, 1) := by decide +kernel
theorem dX0_add_76 : decode cX0_add 76 = .ok (.getfield 29, 3) := by decide +kernel
theorem dX0_add_79 : decode cX0_add 79 = .ok (.iconst 1, 1) := by decide +kernel
theorem dX0_add_80 : decode cX0_add 80 = .ok (.iadd, 1) := by decide +kernel
theorem dX0_add_81 : decode cX0_add 81 = .ok (.putfield 29, 3) := by decide +kernel
theorem dX0_add_84 : decode cX0_add 84 = .ok (.aload_n 1, 1) := by decide +kernel
theorem dX0_add_85 : decode cX0_add 85 = .ok (.getfield 48, 3) := by decide +kernel
theorem dX0_add_88 : decode cX0_add 88 = .ok (.ireturn, 1) := by decide +kernel
theorem dX0_erase_0 : decode cX0_erase 0 = .ok (.aload_n 0, 1) := by decide +kernel
theorem dX0_erase_1 : decode cX0_erase 1 = .ok (.getfield 11, 3) := by decide +kernel
theorem dX0_erase_4 : decode cX0_erase 4 = .ok (.iload_n 1, 1) := by decide +kernel
theorem dX0_erase_5 : decode cX0_erase 5 = .ok (.aaload, 1) := by decide +kernel
theorem dX0_erase_6 : decode cX0_erase 6 = .ok (.astore_n 2, 1) := by decide +kernel
theorem dX0_erase_7 : decode cX0_erase 7 = .ok (.aload_n 0, 1) := by decide +kernel
theorem dX0_erase_8 : decode cX0_erase 8 = .ok (.aload_n 2, 1) := by decide +kernel
theorem dX0_erase_9 : decode cX0_erase 9 = .ok (.invokevirtual 58, 3) := by decide +kernel
theorem dX0_erase_12 : decode cX0_erase 12 = .ok (.aload_n 2, 1) := by decide +kernel
theorem dX0_erase_13 : decode cX0_erase 13 = .ok (.invokevirtual 37, 3) := by decide +kernel
theorem dX0_erase_16 : decode cX0_erase 16 = .ok (.ifCond .eq 17, 3) := by decide +kernel
theorem dX0_erase_19 : decode cX0_erase 19 = .ok (.aload_n 0, 1) := by decide +kernel
theorem dX0_erase_20 : decode cX0_erase 20 = .ok (.invokevirtual 55, 3) := by decide +kernel
theorem dX0_erase_23 : decode cX0_erase 23 = .ok (.ifCond .ne 10, 3) := by decide +kernel
theorem dX0_erase_26 : decode cX0_erase 26 = .ok (.aload_n 0, 1) := by decide +kernel
theorem dX0_erase_27 : decode cX0_erase 27 = .ok (.aload_n 2, 1) := by decide +kernel
theorem dX0_erase_28 : decode cX0_erase 28 = .ok (.invokevirtual 51, 3) := by decide +kernel
theorem dX0_erase_31 : decode cX0_erase 31 = .ok (.iconst 0, 1) := by decide +kernel
theorem dX0_erase_32 : decode cX0_erase 32 = .ok (.ireturn, 1) := by decide +kernel
theorem dX0_erase_33 : decode cX0_erase 33 = .ok (.aload_n 0, 1) := by decide +kernel
theorem dX0_erase_34 : decode cX0_erase 34 = .ok (.getfield 11, 3) := by decide +kernel
theorem dX0_erase_37 : decode cX0_erase 37 = .ok (.iload_n 1, 1) := by decide +kernel
theorem dX0_erase_38 : decode cX0_erase 38 = .ok (.aconst_null, 1) := by decide +kernel
theorem dX0_erase_39 : decode cX0_erase 39 = .ok (.aastore, 1) := by decide +kernel
theorem dX0_erase_40 : decode cX0_erase 40 = .ok (.iconst 1, 1) := by decide +kernel
theorem dX0_erase_41 : decode cX0_erase 41 = .ok (.ireturn, 1) := by decide +kernel
theorem dX0_hasMoveAt_0 : decode cX0_hasMoveAt 0 = .ok (.iconst 0, 1) := by decide +kernel
theorem dX0_hasMoveAt_1 : decode cX0_hasMoveAt 1 = .ok (.istore_n 2, 1) := by decide +kernel
theorem dX0_hasMoveAt_2 : decode cX0_hasMoveAt 2 = .ok (.iload_n 2, 1) := by decide +kernel
theorem dX0_hasMoveAt_3 : decode cX0_hasMoveAt 3 = .ok (.aload_n 0, 1) := by decide +kernel
theorem dX0_hasMoveAt_4 : decode cX0_hasMoveAt 4 = .ok (.getfield 61, 3) := by decide +kernel
theorem dX0_hasMoveAt_7 : decode cX0_hasMoveAt 7 = .ok (.if_icmp .ge 36, 3) := by decide +kernel
theorem dX0_hasMoveAt_10 : decode cX0_hasMoveAt 10 = .ok (.aload_n 0, 1) := by decide +kernel
theorem dX0_hasMoveAt_11 : decode cX0_hasMoveAt 11 = .ok (.getfield 17, 3) := by decide +kernel
theorem dX0_hasMoveAt_14 : decode cX0_hasMoveAt 14 = .ok (.iload_n 2, 1) := by decide +kernel
theorem dX0_hasMoveAt_15 : decode cX0_hasMoveAt 15 = .ok (.aaload, 1) := by decide +kernel
theorem dX0_hasMoveAt_16 : decode cX0_hasMoveAt 16 = .ok (.getfield 41, 3) := by decide +kernel
theorem dX0_hasMoveAt_19 : decode cX0_hasMoveAt 19 = .ok (.iload_n 1, 1) := by decide +kernel
theorem dX0_hasMoveAt_20 : decode cX0_hasMoveAt 20 = .ok (.if_icmp .ne 17, 3) := by decide +kernel
theorem dX0_hasMoveAt_23 : decode cX0_hasMoveAt 23 = .ok (.aload_n 0, 1) := by decide +kernel
theorem dX0_hasMoveAt_24 : decode cX0_hasMoveAt 24 = .ok (.getfield 17, 3) := by decide +kernel
theorem dX0_hasMoveAt_27 : decode cX0_hasMoveAt 27 = .ok (.iload_n 2, 1) := by decide +kernel
theorem dX0_hasMoveAt_28 : decode cX0_hasMoveAt 28 = .ok (.aaload, 1) := by decide +kernel
theorem dX0_hasMoveAt_29 : decode cX0_hasMoveAt 29 = .ok (.invokevirtual 37, 3) := by decide +kernel
theorem dX0_hasMoveAt_32 : decode cX0_hasMoveAt 32 = .ok (.ifCond .eq 5, 3) := by decide +kernel
theorem dX0_hasMoveAt_35 : decode cX0_hasMoveAt 35 = .ok (.iconst 1, 1) := by decide +kernel
theorem dX0_hasMoveAt_36 : decode cX0_hasMoveAt 36 = .ok (.ireturn, 1) := by decide +kernel
theorem dX0_hasMoveAt_37 : decode cX0_hasMoveAt 37 = .ok (.iinc 2 1, 3) := by decide +kernel
theorem dX0_hasMoveAt_40 : decode cX0_hasMoveAt 40 = .ok (.goto (-38), 3) := by decide +kernel
theorem dX0_hasMoveAt_43 : decode cX0_hasMoveAt 43 = .ok (.iconst 0, 1) := by decide +kernel
theorem dX0_hasMoveAt_44 : decode cX0_hasMoveAt 44 = .ok (.ireturn, 1) := by decide +kernel
theorem dX0_isPossible_0 : decode cX0_isPossible 0 = .ok (.aload_n 0, 1) := by decide +kernel
theorem dX0_isPossible_1 : decode cX0_isPossible 1 = .ok (.getfield 25, 3) := by decide +kernel
theorem dX0_isPossible_4 : decode cX0_isPossible 4 = .ok (.invokevirtual 64, 3) := by decide +kernel
theorem dX0_isPossible_7 : decode cX0_isPossible 7 = .ok (.iconst 0, 1) := by decide +kernel
theorem dX0_isPossible_8 : decode cX0_isPossible 8 = .ok (.istore_n 1, 1) := by decide +kernel
theorem dX0_isPossible_9 : decode cX0_isPossible 9 = .ok (.iload_n 1, 1) := by decide +kernel
theorem dX0_isPossible_10 : decode cX0_isPossible 10 = .ok (.aload_n 0, 1) := by decide +kernel
theorem dX0_isPossible_11 : decode cX0_isPossible 11 = .ok (.getfield 61, 3) := by decide +kernel
theorem dX0_isPossible_14 : decode cX0_isPossible 14 = .ok (.if_icmp .ge 58, 3) := by decide +kernel
theorem dX0_isPossible_17 : decode cX0_isPossible 17 = .ok (.aload_n 0, 1) := by decide +kernel
theorem dX0_isPossible_18 : decode cX0_isPossible 18 = .ok (.getfield 17, 3) := by decide +kernel
theorem dX0_isPossible_21 : decode cX0_isPossible 21 = .ok (.iload_n 1, 1) := by decide +kernel
theorem dX0_isPossible_22 : decode cX0_isPossible 22 = .ok (.aaload, 1) := by decide +kernel
theorem dX0_isPossible_23 : decode cX0_isPossible 23 = .ok (.astore_n 2, 1) := by decide +kernel
theorem dX0_isPossible_24 : decode cX0_isPossible 24 = .ok (.aload_n 2, 1) := by decide +kernel
theorem dX0_isPossible_25 : decode cX0_isPossible 25 = .ok (.getfield 67, 3) := by decide +kernel
theorem dX0_isPossible_28 : decode cX0_isPossible 28 = .ok (.ifCond .ne 14, 3) := by decide +kernel
theorem dX0_isPossible_31 : decode cX0_isPossible 31 = .ok (.aload_n 0, 1) := by decide +kernel
theorem dX0_isPossible_32 : decode cX0_isPossible 32 = .ok (.getfield 25, 3) := by decide +kernel
theorem dX0_isPossible_35 : decode cX0_isPossible 35 = .ok (.aload_n 2, 1) := by decide +kernel
theorem dX0_isPossible_36 : decode cX0_isPossible 36 = .ok (.invokevirtual 70, 3) := by decide +kernel
theorem dX0_isPossible_39 : decode cX0_isPossible 39 = .ok (.ifCond .eq 25, 3) := by decide +kernel
theorem dX0_isPossible_42 : decode cX0_isPossible 42 = .ok (.aload_n 2, 1) := by decide +kernel
theorem dX0_isPossible_43 : decode cX0_isPossible 43 = .ok (.getfield 67, 3) := by decide +kernel
theorem dX0_isPossible_46 : decode cX0_isPossible 46 = .ok (.iconst 1, 1) := by decide +kernel
theorem dX0_isPossible_47 : decode cX0_isPossible 47 = .ok (.if_icmp .ne 19, 3) := by decide +kernel
theorem dX0_isPossible_50 : decode cX0_isPossible 50 = .ok (.aload_n 0, 1) := by decide +kernel
theorem dX0_isPossible_51 : decode cX0_isPossible 51 = .ok (.getfield 25, 3) := by decide +kernel
theorem dX0_isPossible_54 : decode cX0_isPossible 54 = .ok (.aload_n 2, 1) := by decide +kernel
theorem dX0_isPossible_55 : decode cX0_isPossible 55 = .ok (.getfield 74, 3) := by decide +kernel
theorem dX0_isPossible_58 : decode cX0_isPossible 58 = .ok (.invokevirtual 77, 3) := by decide +kernel
theorem dX0_isPossible_61 : decode cX0_isPossible 61 = .ok (.ifCond .ne 5, 3) := by decide +kernel
theorem dX0_isPossible_64 : decode cX0_isPossible 64 = .ok (.iconst 0, 1) := by decide +kernel
theorem dX0_isPossible_65 : decode cX0_isPossible 65 = .ok (.ireturn, 1) := by decide +kernel
theorem dX0_isPossible_66 : decode cX0_isPossible 66 = .ok (.iinc 1 1, 3) := by decide +kernel
theorem dX0_isPossible_69 : decode cX0_isPossible 69 = .ok (.goto (-60), 3) := by decide +kernel
theorem dX0_isPossible_72 : decode cX0_isPossible 72 = .ok (.iconst 1, 1) := by decide +kernel
theorem dX0_isPossible_73 : decode cX0_isPossible 73 = .ok (.ireturn, 1) := by decide +kernel
theorem dX0_insert_0 : decode cX0_insert 0 = .ok (.aload_n 0, 1) := by decide +kernel
theorem dX0_insert_1 : decode cX0_insert 1 = .ok (.getfield 61, 3) := by decide +kernel
theorem dX0_insert_4 : decode cX0_insert 4 = .ok (.istore_n 2, 1) := by decide +kernel
theorem dX0_insert_5 : decode cX0_insert 5 = .ok (.iload_n 2, 1) := by decide +kernel
theorem dX0_insert_6 : decode cX0_insert 6 = .ok (.ifCond .le 38, 3) := by decide +kernel
theorem dX0_insert_9 : decode cX0_insert 9 = .ok (.aload_n 1, 1) := by decide +kernel
theorem dX0_insert_10 : decode cX0_insert 10 = .ok (.aload_n 0, 1) := by decide +kernel
theorem dX0_insert_11 : decode cX0_insert 11 = .ok (.getfield 17, 3) := by decide +kernel
theorem dX0_insert_14 : decode cX0_insert 14 = .ok (.iload_n 2, 1) := by decide +kernel
theorem dX0_insert_15 : decode cX0_insert 15 = .ok (.iconst 1, 1) := by decide +kernel
theorem dX0_insert_16 : decode cX0_insert 16 = .ok (.isub, 1) := by decide +kernel
theorem dX0_insert_17 : decode cX0_insert 17 = .ok (.aaload, 1) := by decide +kernel
theorem dX0_insert_18 : decode cX0_insert 18 = .ok (.invokevirtual 80, 3) := by decide +kernel
theorem dX0_insert_21 : decode cX0_insert 21 = .ok (.ifCond .eq 23, 3) := by decide +kernel
theorem dX0_insert_24 : decode cX0_insert 24 = .ok (.aload_n 0, 1) := by decide +kernel
theorem dX0_insert_25 : decode cX0_insert 25 = .ok (.getfield 17, 3) := by decide +kernel
theorem dX0_insert_28 : decode cX0_insert 28 = .ok (.iload_n 2, 1) := by decide +kernel
theorem dX0_insert_29 : decode cX0_insert 29 = .ok (.aload_n 0, 1) := by decide +kernel
theorem dX0_insert_30 : decode cX0_insert 30 = .ok (.getfield 17, 3) := by decide +kernel
theorem dX0_insert_33 : decode cX0_insert 33 = .ok (.iload_n 2, 1) := by decide +kernel
theorem dX0_insert_34 : decode cX0_insert 34 = .ok (.iconst 1, 1) := by decide +kernel
theorem dX0_insert_35 : decode cX0_insert 35 = .ok (.isub, 1) := by decide +kernel
theorem dX0_insert_36 : decode cX0_insert 36 = .ok (.aaload, 1) := by decide +kernel
theorem dX0_insert_37 : decode cX0_insert 37 = .ok (.aastore, 1) := by decide +kernel
theorem dX0_insert_38 : decode cX0_insert 38 = .ok (.iinc 2 (-1), 3) := by decide +kernel
theorem dX0_insert_41 : decode cX0_insert 41 = .ok (.goto (-36), 3) := by decide +kernel
theorem dX0_insert_44 : decode cX0_insert 44 = .ok (.aload_n 0, 1) := by decide +kernel
theorem dX0_insert_45 : decode cX0_insert 45 = .ok (.getfield 17, 3) := by decide +kernel
theorem dX0_insert_48 : decode cX0_insert 48 = .ok (.iload_n 2, 1) := by decide +kernel
theorem dX0_insert_49 : decode cX0_insert 49 = .ok (.aload_n 1, 1) := by decide +kernel
theorem dX0_insert_50 : decode cX0_insert 50 = .ok (.aastore, 1) := by decide +kernel
theorem dX0_insert_51 : decode cX0_insert 51 = .ok (.aload_n 0, 1) := by decide +kernel
theorem dX0_insert_52 : decode cX0_insert 52 = .ok (.dup, 1) := by decide +kernel
theorem dX0_insert_53 : decode cX0_insert 53 = .ok (.getfield 61, 3) := by decide +kernel
theorem dX0_insert_56 : decode cX0_insert 56 = .ok (.iconst 1, 1) := by decide +kernel
theorem dX0_insert_57 : decode cX0_insert 57 = .ok (.iadd, 1) := by decide +kernel
theorem dX0_insert_58 : decode cX0_insert 58 = .ok (.putfield 61, 3) := by decide +kernel
theorem dX0_insert_61 : decode cX0_insert 61 = .ok (.return_, 1) := by decide +kernel
theorem dX0_remove_0 : decode cX0_remove 0 = .ok (.iconst 0, 1) := by decide +kernel
theorem dX0_remove_1 : decode cX0_remove 1 = .ok (.istore_n 2, 1) := by decide +kernel
theorem dX0_remove_2 : decode cX0_remove 2 = .ok (.iconst 0, 1) := by decide +kernel
theorem dX0_remove_3 : decode cX0_remove 3 = .ok (.istore_n 3, 1) := by decide +kernel
theorem dX0_remove_4 : decode cX0_remove 4 = .ok (.iload_n 3, 1) := by decide +kernel
theorem dX0_remove_5 : decode cX0_remove 5 = .ok (.aload_n 0, 1) := by decide +kernel
theorem dX0_remove_6 : decode cX0_remove 6 = .ok (.getfield 61, 3) := by decide +kernel
theorem dX0_remove_9 : decode cX0_remove 9 = .ok (.if_icmp .ge 34, 3) := by decide +kernel
theorem dX0_remove_12 : decode cX0_remove 12 = .ok (.aload_n 0, 1) := by decide +kernel
theorem dX0_remove_13 : decode cX0_remove 13 = .ok (.getfield 17, 3) := by decide +kernel
theorem dX0_remove_16 : decode cX0_remove 16 = .ok (.iload_n 3, 1) := by decide +kernel
theorem dX0_remove_17 : decode cX0_remove 17 = .ok (.aaload, 1) := by decide +kernel
theorem dX0_remove_18 : decode cX0_remove 18 = .ok (.aload_n 1, 1) := by decide +kernel
theorem dX0_remove_19 : decode cX0_remove 19 = .ok (.if_acmp .eq 18, 3) := by decide +kernel
theorem dX0_remove_22 : decode cX0_remove 22 = .ok (.aload_n 0, 1) := by decide +kernel
theorem dX0_remove_23 : decode cX0_remove 23 = .ok (.getfield 17, 3) := by decide +kernel
theorem dX0_remove_26 : decode cX0_remove 26 = .ok (.iload_n 2, 1) := by decide +kernel
theorem dX0_remove_27 : decode cX0_remove 27 = .ok (.aload_n 0, 1) := by decide +kernel
theorem dX0_remove_28 : decode cX0_remove 28 = .ok (.getfield 17, 3) := by decide +kernel
theorem dX0_remove_31 : decode cX0_remove 31 = .ok (.iload_n 3, 1) := by decide +kernel
theorem dX0_remove_32 : decode cX0_remove 32 = .ok (.aaload, 1) := by decide +kernel
theorem dX0_remove_33 : decode cX0_remove 33 = .ok (.aastore, 1) := by decide +kernel
theorem dX0_remove_34 : decode cX0_remove 34 = .ok (.iinc 2 1, 3) := by decide +kernel
theorem dX0_remove_37 : decode cX0_remove 37 = .ok (.iinc 3 1, 3) := by decide +kernel
theorem dX0_remove_40 : decode cX0_remove 40 = .ok (.goto (-36), 3) := by decide +kernel
theorem dX0_remove_43 : decode cX0_remove 43 = .ok (.aload_n 0, 1) := by decide +kernel
theorem dX0_remove_44 : decode cX0_remove 44 = .ok (.iload_n 2, 1) := by decide +kernel
theorem dX0_remove_45 : decode cX0_remove 45 = .ok (.putfield 61, 3) := by decide +kernel
theorem dX0_remove_48 : decode cX0_remove 48 = .ok (.return_, 1) := by decide +kernel
theorem dX1_init_0 : decode cX1_init 0 = .ok (.aload_n 0, 1) := by decide +kernel
theorem dX1_init_1 : decode cX1_init 1 = .ok (.invokespecial 3, 3) := by decide +kernel
theorem dX1_init_4 : decode cX1_init 4 = .ok (.aload_n 0, 1) := by decide +kernel
theorem dX1_init_5 : decode cX1_init 5 = .ok (.iload_n 1, 1) := by decide +kernel
theorem dX1_init_6 : decode cX1_init 6 = .ok (.putfield 9, 3) := by decide +kernel
theorem dX1_init_9 : decode cX1_init 9 = .ok (.aload_n 0, 1) := by decide +kernel
theorem dX1_init_10 : decode cX1_init 10 = .ok (.iload_n 2, 1) := by decide +kernel
theorem dX1_init_11 : decode cX1_init 11 = .ok (.putfield 15, 3) := by decide +kernel
theorem dX1_init_14 : decode cX1_init 14 = .ok (.aload_n 0, 1) := by decide +kernel
theorem dX1_init_15 : decode cX1_init 15 = .ok (.iload_n 3, 1) := by decide +kernel
theorem dX1_init_16 : decode cX1_init 16 = .ok (.putfield 18, 3) := by decide +kernel
theorem dX1_init_19 : decode cX1_init 19 = .ok (.return_, 1) := by decide +kernel
theorem dX1_isMove_0 : decode cX1_isMove 0 = .ok (.aload_n 0, 1) := by decide +kernel
theorem dX1_isMove_1 : decode cX1_isMove 1 = .ok (.getfield 9, 3) := by decide +kernel
theorem dX1_isMove_4 : decode cX1_isMove 4 = .ok (.ifCond .eq 11, 3) := by decide +kernel
theorem dX1_isMove_7 : decode cX1_isMove 7 = .ok (.aload_n 0, 1) := by decide +kernel
theorem dX1_isMove_8 : decode cX1_isMove 8 = .ok (.getfield 9, 3) := by decide +kernel
theorem dX1_isMove_11 : decode cX1_isMove 11 = .ok (.iconst 1, 1) := by decide +kernel
theorem dX1_isMove_12 : decode cX1_isMove 12 = .ok (.if_icmp .ne 7, 3) := by decide +kernel
theorem dX1_isMove_15 : decode cX1_isMove 15 = .ok (.iconst 1, 1) := by decide +kernel
theorem dX1_isMove_16 : decode cX1_isMove 16 = .ok (.goto 4, 3) := by decide +kernel
theorem dX1_isMove_19 : decode cX1_isMove 19 = .ok (.iconst 0, 1) := by decide +kernel
theorem dX1_isMove_20 : decode cX1_isMove 20 = .ok (.ireturn, 1) := by decide +kernel
theorem dX1_rank_0 : decode cX1_rank 0 = .ok (.aload_n 0, 1) := by decide +kernel
theorem dX1_rank_1 : decode cX1_rank 1 = .ok (.invokevirtual 21, 3) := by decide +kernel
theorem dX1_rank_4 : decode cX1_rank 4 = .ok (.ifCond .eq 5, 3) := by decide +kernel
theorem dX1_rank_7 : decode cX1_rank 7 = .ok (.iconst 0, 1) := by decide +kernel
theorem dX1_rank_8 : decode cX1_rank 8 = .ok (.ireturn, 1) := by decide +kernel
theorem dX1_rank_9 : decode cX1_rank 9 = .ok (.aload_n 0, 1) := by decide +kernel
theorem dX1_rank_10 : decode cX1_rank 10 = .ok (.getfield 9, 3) := by decide +kernel
theorem dX1_rank_13 : decode cX1_rank 13 = .ok (.iconst 2, 1) := by decide +kernel
theorem dX1_rank_14 : decode cX1_rank 14 = .ok (.if_icmp .ne 7, 3) := by decide +kernel
theorem dX1_rank_17 : decode cX1_rank 17 = .ok (.iconst 1, 1) := by decide +kernel
theorem dX1_rank_18 : decode cX1_rank 18 = .ok (.goto 4, 3) := by decide +kernel
theorem dX1_rank_21 : decode cX1_rank 21 = .ok (.iconst 2, 1) := by decide +kernel
theorem dX1_rank_22 : decode cX1_rank 22 = .ok (.ireturn, 1) := by decide +kernel
theorem dX1_comesBefore_0 : decode cX1_comesBefore 0 = .ok (.aload_n 0, 1) := by decide +kernel
theorem dX1_comesBefore_1 : decode cX1_comesBefore 1 = .ok (.getfield 18, 3) := by decide +kernel
theorem dX1_comesBefore_4 : decode cX1_comesBefore 4 = .ok (.aload_n 1, 1) := by decide +kernel
theorem dX1_comesBefore_5 : decode cX1_comesBefore 5 = .ok (.getfield 18, 3) := by decide +kernel
theorem dX1_comesBefore_8 : decode cX1_comesBefore 8 = .ok (.if_icmp .eq 20, 3) := by decide +kernel
theorem dX1_comesBefore_11 : decode cX1_comesBefore 11 = .ok (.aload_n 0, 1) := by decide +kernel
theorem dX1_comesBefore_12 : decode cX1_comesBefore 12 = .ok (.getfield 18, 3) := by decide +kernel
theorem dX1_comesBefore_15 : decode cX1_comesBefore 15 = .ok (.aload_n 1, 1) := by decide +kernel
theorem dX1_comesBefore_16 : decode cX1_comesBefore 16 = .ok (.getfield 18, 3) := by decide +kernel
theorem dX1_comesBefore_19 : decode cX1_comesBefore 19 = .ok (.if_icmp .ge 7, 3) := by decide +kernel
theorem dX1_comesBefore_22 : decode cX1_comesBefore 22 = .ok (.iconst 1, 1) := by decide +kernel
theorem dX1_comesBefore_23 : decode cX1_comesBefore 23 = .ok (.goto 4, 3) := by decide +kernel
theorem dX1_comesBefore_26 : decode cX1_comesBefore 26 = .ok (.iconst 0, 1) := by decide +kernel
theorem dX1_comesBefore_27 : decode cX1_comesBefore 27 = .ok (.ireturn, 1) := by decide +kernel
theorem dX1_comesBefore_28 : decode cX1_comesBefore 28 = .ok (.aload_n 0, 1) := by decide +kernel
theorem dX1_comesBefore_29 : decode cX1_comesBefore 29 = .ok (.invokevirtual 25, 3) := by decide +kernel
theorem dX1_comesBefore_32 : decode cX1_comesBefore 32 = .ok (.aload_n 1, 1) := by decide +kernel
theorem dX1_comesBefore_33 : decode cX1_comesBefore 33 = .ok (.invokevirtual 25, 3) := by decide +kernel
theorem dX1_comesBefore_36 : decode cX1_comesBefore 36 = .ok (.if_icmp .eq 20, 3) := by decide +kernel
theorem dX1_comesBefore_39 : decode cX1_comesBefore 39 = .ok (.aload_n 0, 1) := by decide +kernel
theorem dX1_comesBefore_40 : decode cX1_comesBefore 40 = .ok (.invokevirtual 25, 3) := by decide +kernel
theorem dX1_comesBefore_43 : decode cX1_comesBefore 43 = .ok (.aload_n 1, 1) := by decide +kernel
theorem dX1_comesBefore_44 : decode cX1_comesBefore 44 = .ok (.invokevirtual 25, 3) := by decide +kernel
theorem dX1_comesBefore_47 : decode cX1_comesBefore 47 = .ok (.if_icmp .ge 7, 3) := by decide +kernel
theorem dX1_comesBefore_50 : decode cX1_comesBefore 50 = .ok (.iconst 1, 1) := by decide +kernel
theorem dX1_comesBefore_51 : decode cX1_comesBefore 51 = .ok (.goto 4, 3) := by decide +kernel
theorem dX1_comesBefore_54 : decode cX1_comesBefore 54 = .ok (.iconst 0, 1) := by decide +kernel
theorem dX1_comesBefore_55 : decode cX1_comesBefore 55 = .ok (.ireturn, 1) := by decide +kernel
theorem dX1_comesBefore_56 : decode cX1_comesBefore 56 = .ok (.aload_n 0, 1) := by decide +kernel
theorem dX1_comesBefore_57 : decode cX1_comesBefore 57 = .ok (.getfield 29, 3) := by decide +kernel
theorem dX1_comesBefore_60 : decode cX1_comesBefore 60 = .ok (.aload_n 1, 1) := by decide +kernel
theorem dX1_comesBefore_61 : decode cX1_comesBefore 61 = .ok (.getfield 29, 3) := by decide +kernel
theorem dX1_comesBefore_64 : decode cX1_comesBefore 64 = .ok (.if_icmp .ge 7, 3) := by decide +kernel
theorem dX1_comesBefore_67 : decode cX1_comesBefore 67 = .ok (.iconst 1, 1) := by decide +kernel
theorem dX1_comesBefore_68 : decode cX1_comesBefore 68 = .ok (.goto 4, 3) := by decide +kernel
theorem dX1_comesBefore_71 : decode cX1_comesBefore 71 = .ok (.iconst 0, 1) := by decide +kernel
theorem dX1_comesBefore_72 : decode cX1_comesBefore 72 = .ok (.ireturn, 1) := by decide +kernel
theorem dX1_amountOf_0 : decode cX1_amountOf 0 = .ok (.iload_n 1, 1) := by decide +kernel
theorem dX1_amountOf_1 : decode cX1_amountOf 1 = .ok (.lookupswitch 37 #[(0, 27), (1, 32)], 27) := by decide +kernel
theorem dX1_amountOf_28 : decode cX1_amountOf 28 = .ok (.aload_n 0, 1) := by decide +kernel
theorem dX1_amountOf_29 : decode cX1_amountOf 29 = .ok (.getfield 32, 3) := by decide +kernel
theorem dX1_amountOf_32 : decode cX1_amountOf 32 = .ok (.ireturn, 1) := by decide +kernel
theorem dX1_amountOf_33 : decode cX1_amountOf 33 = .ok (.aload_n 0, 1) := by decide +kernel
theorem dX1_amountOf_34 : decode cX1_amountOf 34 = .ok (.getfield 35, 3) := by decide +kernel
theorem dX1_amountOf_37 : decode cX1_amountOf 37 = .ok (.ireturn, 1) := by decide +kernel
theorem dX1_amountOf_38 : decode cX1_amountOf 38 = .ok (.aload_n 0, 1) := by decide +kernel
theorem dX1_amountOf_39 : decode cX1_amountOf 39 = .ok (.getfield 38, 3) := by decide +kernel
theorem dX1_amountOf_42 : decode cX1_amountOf 42 = .ok (.ireturn, 1) := by decide +kernel
theorem dX2_init_0 : decode cX2_init 0 = .ok (.aload_n 0, 1) := by decide +kernel
theorem dX2_init_1 : decode cX2_init 1 = .ok (.invokespecial 3, 3) := by decide +kernel
theorem dX2_init_4 : decode cX2_init 4 = .ok (.aload_n 0, 1) := by decide +kernel
theorem dX2_init_5 : decode cX2_init 5 = .ok (.bipush 48, 2) := by decide +kernel
theorem dX2_init_7 : decode cX2_init 7 = .ok (.newarray .int, 2) := by decide +kernel
theorem dX2_init_9 : decode cX2_init 9 = .ok (.putfield 9, 3) := by decide +kernel
theorem dX2_init_12 : decode cX2_init 12 = .ok (.aload_n 0, 1) := by decide +kernel
theorem dX2_init_13 : decode cX2_init 13 = .ok (.iconst 2, 1) := by decide +kernel
theorem dX2_init_14 : decode cX2_init 14 = .ok (.bipush 12, 2) := by decide +kernel
theorem dX2_init_16 : decode cX2_init 16 = .ok (.multianewarray 15 2, 4) := by decide +kernel
theorem dX2_init_20 : decode cX2_init 20 = .ok (.putfield 17, 3) := by decide +kernel
theorem dX2_init_23 : decode cX2_init 23 = .ok (.aload_n 0, 1) := by decide +kernel
theorem dX2_init_24 : decode cX2_init 24 = .ok (.getfield 9, 3) := by decide +kernel
theorem dX2_init_27 : decode cX2_init 27 = .ok (.iconst (-1), 1) := by decide +kernel
theorem dX2_init_28 : decode cX2_init 28 = .ok (.invokestatic 20, 3) := by decide +kernel
theorem dX2_init_31 : decode cX2_init 31 = .ok (.return_, 1) := by decide +kernel
theorem dX2_hangsSomewhere_0 : decode cX2_hangsSomewhere 0 = .ok (.iconst 0, 1) := by decide +kernel
theorem dX2_hangsSomewhere_1 : decode cX2_hangsSomewhere 1 = .ok (.istore_n 2, 1) := by decide +kernel
theorem dX2_hangsSomewhere_2 : decode cX2_hangsSomewhere 2 = .ok (.iload_n 2, 1) := by decide +kernel
theorem dX2_hangsSomewhere_3 : decode cX2_hangsSomewhere 3 = .ok (.aload_n 0, 1) := by decide +kernel
theorem dX2_hangsSomewhere_4 : decode cX2_hangsSomewhere 4 = .ok (.getfield 9, 3) := by decide +kernel
theorem dX2_hangsSomewhere_7 : decode cX2_hangsSomewhere 7 = .ok (.arraylength, 1) := by decide +kernel
theorem dX2_hangsSomewhere_8 : decode cX2_hangsSomewhere 8 = .ok (.if_icmp .ge 21, 3) := by decide +kernel
theorem dX2_hangsSomewhere_11 : decode cX2_hangsSomewhere 11 = .ok (.aload_n 0, 1) := by decide +kernel
theorem dX2_hangsSomewhere_12 : decode cX2_hangsSomewhere 12 = .ok (.getfield 9, 3) := by decide +kernel
theorem dX2_hangsSomewhere_15 : decode cX2_hangsSomewhere 15 = .ok (.iload_n 2, 1) := by decide +kernel
theorem dX2_hangsSomewhere_16 : decode cX2_hangsSomewhere 16 = .ok (.iaload, 1) := by decide +kernel
theorem dX2_hangsSomewhere_17 : decode cX2_hangsSomewhere 17 = .ok (.iload_n 1, 1) := by decide +kernel
theorem dX2_hangsSomewhere_18 : decode cX2_hangsSomewhere 18 = .ok (.if_icmp .ne 5, 3) := by decide +kernel
theorem dX2_hangsSomewhere_21 : decode cX2_hangsSomewhere 21 = .ok (.iconst 1, 1) := by decide +kernel
theorem dX2_hangsSomewhere_22 : decode cX2_hangsSomewhere 22 = .ok (.ireturn, 1) := by decide +kernel
theorem dX2_hangsSomewhere_23 : decode cX2_hangsSomewhere 23 = .ok (.iinc 2 1, 3) := by decide +kernel
theorem dX2_hangsSomewhere_26 : decode cX2_hangsSomewhere 26 = .ok (.goto (-24), 3) := by decide +kernel
theorem dX2_hangsSomewhere_29 : decode cX2_hangsSomewhere 29 = .ok (.iconst 0, 1) := by decide +kernel
theorem dX2_hangsSomewhere_30 : decode cX2_hangsSomewhere 30 = .ok (.ireturn, 1) := by decide +kernel
theorem dX3_init_0 : decode cX3_init 0 = .ok (.aload_n 0, 1) := by decide +kernel
theorem dX3_init_1 : decode cX3_init 1 = .ok (.invokespecial 3, 3) := by decide +kernel
theorem dX3_init_4 : decode cX3_init 4 = .ok (.aload_n 0, 1) := by decide +kernel
theorem dX3_init_5 : decode cX3_init 5 = .ok (.bipush 8, 2) := by decide +kernel
theorem dX3_init_7 : decode cX3_init 7 = .ok (.newarray .int, 2) := by decide +kernel
theorem dX3_init_9 : decode cX3_init 9 = .ok (.putfield 9, 3) := by decide +kernel
theorem dX3_init_12 : decode cX3_init 12 = .ok (.aload_n 0, 1) := by decide +kernel
theorem dX3_init_13 : decode cX3_init 13 = .ok (.bipush 8, 2) := by decide +kernel
theorem dX3_init_15 : decode cX3_init 15 = .ok (.newarray .int, 2) := by decide +kernel
theorem dX3_init_17 : decode cX3_init 17 = .ok (.putfield 15, 3) := by decide +kernel
theorem dX3_init_20 : decode cX3_init 20 = .ok (.aload_n 0, 1) := by decide +kernel
theorem dX3_init_21 : decode cX3_init 21 = .ok (.bipush 8, 2) := by decide +kernel
theorem dX3_init_23 : decode cX3_init 23 = .ok (.newarray .int, 2) := by decide +kernel
theorem dX3_init_25 : decode cX3_init 25 = .ok (.putfield 18, 3) := by decide +kernel
theorem dX3_init_28 : decode cX3_init 28 = .ok (.aload_n 0, 1) := by decide +kernel
theorem dX3_init_29 : decode cX3_init 29 = .ok (.bipush 8, 2) := by decide +kernel
theorem dX3_init_31 : decode cX3_init 31 = .ok (.newarray .int, 2) := by decide +kernel
theorem dX3_init_33 : decode cX3_init 33 = .ok (.putfield 21, 3) := by decide +kernel
theorem dX3_init_36 : decode cX3_init 36 = .ok (.aload_n 0, 1) := by decide +kernel
theorem dX3_init_37 : decode cX3_init 37 = .ok (.bipush 8, 2) := by decide +kernel
theorem dX3_init_39 : decode cX3_init 39 = .ok (.newarray .int, 2) := by decide +kernel
theorem dX3_init_41 : decode cX3_init 41 = .ok (.putfield 24, 3) := by decide +kernel
theorem dX3_init_44 : decode cX3_init 44 = .ok (.aload_n 0, 1) := by decide +kernel
theorem dX3_init_45 : decode cX3_init 45 = .ok (.getfield 9, 3) := by decide +kernel
theorem dX3_init_48 : decode cX3_init 48 = .ok (.iconst (-1), 1) := by decide +kernel
theorem dX3_init_49 : decode cX3_init 49 = .ok (.invokestatic 27, 3) := by decide +kernel
theorem dX3_init_52 : decode cX3_init 52 = .ok (.return_, 1) := by decide +kernel
theorem dX3_has_0 : decode cX3_has 0 = .ok (.iload_n 1, 1) := by decide +kernel
theorem dX3_has_1 : decode cX3_has 1 = .ok (.bipush 8, 2) := by decide +kernel
theorem dX3_has_3 : decode cX3_has 3 = .ok (.invokestatic 33, 3) := by decide +kernel
theorem dX3_has_6 : decode cX3_has 6 = .ok (.ifCond .eq 17, 3) := by decide +kernel
theorem dX3_has_9 : decode cX3_has 9 = .ok (.aload_n 0, 1) := by decide +kernel
theorem dX3_has_10 : decode cX3_has 10 = .ok (.getfield 9, 3) := by decide +kernel
theorem dX3_has_13 : decode cX3_has 13 = .ok (.iload_n 1, 1) := by decide +kernel
theorem dX3_has_14 : decode cX3_has 14 = .ok (.iaload, 1) := by decide +kernel
theorem dX3_has_15 : decode cX3_has 15 = .ok (.iconst (-1), 1) := by decide +kernel
theorem dX3_has_16 : decode cX3_has 16 = .ok (.if_icmp .eq 7, 3) := by decide +kernel
theorem dX3_has_19 : decode cX3_has 19 = .ok (.iconst 1, 1) := by decide +kernel
theorem dX3_has_20 : decode cX3_has 20 = .ok (.goto 4, 3) := by decide +kernel
theorem dX3_has_23 : decode cX3_has 23 = .ok (.iconst 0, 1) := by decide +kernel
theorem dX3_has_24 : decode cX3_has 24 = .ok (.ireturn, 1) := by decide +kernel
theorem dX3_set_0 : decode cX3_set 0 = .ok (.aload_n 0, 1) := by decide +kernel
theorem dX3_set_1 : decode cX3_set 1 = .ok (.getfield 9, 3) := by decide +kernel
theorem dX3_set_4 : decode cX3_set 4 = .ok (.iload_n 1, 1) := by decide +kernel
theorem dX3_set_5 : decode cX3_set 5 = .ok (.iload_n 2, 1) := by decide +kernel
theorem dX3_set_6 : decode cX3_set 6 = .ok (.iastore, 1) := by decide +kernel
theorem dX3_set_7 : decode cX3_set 7 = .ok (.aload_n 0, 1) := by decide +kernel
theorem dX3_set_8 : decode cX3_set 8 = .ok (.getfield 15, 3) := by decide +kernel
theorem dX3_set_11 : decode cX3_set 11 = .ok (.iload_n 1, 1) := by decide +kernel
theorem dX3_set_12 : decode cX3_set 12 = .ok (.iload_n 3, 1) := by decide +kernel
theorem dX3_set_13 : decode cX3_set 13 = .ok (.iastore, 1) := by decide +kernel
theorem dX3_set_14 : decode cX3_set 14 = .ok (.aload_n 0, 1) := by decide +kernel
theorem dX3_set_15 : decode cX3_set 15 = .ok (.getfield 18, 3) := by decide +kernel
theorem dX3_set_18 : decode cX3_set 18 = .ok (.iload_n 1, 1) := by decide +kernel
theorem dX3_set_19 : decode cX3_set 19 = .ok (.iload 4, 2) := by decide +kernel
theorem dX3_set_21 : decode cX3_set 21 = .ok (.iastore, 1) := by decide +kernel
theorem dX3_set_22 : decode cX3_set 22 = .ok (.aload_n 0, 1) := by decide +kernel
theorem dX3_set_23 : decode cX3_set 23 = .ok (.getfield 21, 3) := by decide +kernel
theorem dX3_set_26 : decode cX3_set 26 = .ok (.iload_n 1, 1) := by decide +kernel
theorem dX3_set_27 : decode cX3_set 27 = .ok (.iload 5, 2) := by decide +kernel
theorem dX3_set_29 : decode cX3_set 29 = .ok (.iastore, 1) := by decide +kernel
theorem dX3_set_30 : decode cX3_set 30 = .ok (.aload_n 0, 1) := by decide +kernel
theorem dX3_set_31 : decode cX3_set 31 = .ok (.getfield 24, 3) := by decide +kernel
theorem dX3_set_34 : decode cX3_set 34 = .ok (.iload_n 1, 1) := by decide +kernel
theorem dX3_set_35 : decode cX3_set 35 = .ok (.iload 6, 2) := by decide +kernel
theorem dX3_set_37 : decode cX3_set 37 = .ok (.iastore, 1) := by decide +kernel
theorem dX3_set_38 : decode cX3_set 38 = .ok (.return_, 1) := by decide +kernel
theorem dX3_isFor_0 : decode cX3_isFor 0 = .ok (.aload_n 0, 1) := by decide +kernel
theorem dX3_isFor_1 : decode cX3_isFor 1 = .ok (.getfield 9, 3) := by decide +kernel
theorem dX3_isFor_4 : decode cX3_isFor 4 = .ok (.iload_n 1, 1) := by decide +kernel
theorem dX3_isFor_5 : decode cX3_isFor 5 = .ok (.iaload, 1) := by decide +kernel
theorem dX3_isFor_6 : decode cX3_isFor 6 = .ok (.iload_n 3, 1) := by decide +kernel
theorem dX3_isFor_7 : decode cX3_isFor 7 = .ok (.if_icmp .ne 27, 3) := by decide +kernel
theorem dX3_isFor_10 : decode cX3_isFor 10 = .ok (.iload_n 2, 1) := by decide +kernel
theorem dX3_isFor_11 : decode cX3_isFor 11 = .ok (.aload_n 0, 1) := by decide +kernel
theorem dX3_isFor_12 : decode cX3_isFor 12 = .ok (.getfield 15, 3) := by decide +kernel
theorem dX3_isFor_15 : decode cX3_isFor 15 = .ok (.iload_n 1, 1) := by decide +kernel
theorem dX3_isFor_16 : decode cX3_isFor 16 = .ok (.iaload, 1) := by decide +kernel
theorem dX3_isFor_17 : decode cX3_isFor 17 = .ok (.if_icmp .lt 17, 3) := by decide +kernel
theorem dX3_isFor_20 : decode cX3_isFor 20 = .ok (.iload_n 2, 1) := by decide +kernel
theorem dX3_isFor_21 : decode cX3_isFor 21 = .ok (.aload_n 0, 1) := by decide +kernel
theorem dX3_isFor_22 : decode cX3_isFor 22 = .ok (.getfield 18, 3) := by decide +kernel
theorem dX3_isFor_25 : decode cX3_isFor 25 = .ok (.iload_n 1, 1) := by decide +kernel
theorem dX3_isFor_26 : decode cX3_isFor 26 = .ok (.iaload, 1) := by decide +kernel
theorem dX3_isFor_27 : decode cX3_isFor 27 = .ok (.if_icmp .gt 7, 3) := by decide +kernel
theorem dX3_isFor_30 : decode cX3_isFor 30 = .ok (.iconst 1, 1) := by decide +kernel
theorem dX3_isFor_31 : decode cX3_isFor 31 = .ok (.goto 4, 3) := by decide +kernel
theorem dX3_isFor_34 : decode cX3_isFor 34 = .ok (.iconst 0, 1) := by decide +kernel
theorem dX3_isFor_35 : decode cX3_isFor 35 = .ok (.ireturn, 1) := by decide +kernel
theorem dX4_init_0 : decode cX4_init 0 = .ok (.aload_n 0, 1) := by decide +kernel
theorem dX4_init_1 : decode cX4_init 1 = .ok (.invokespecial 3, 3) := by decide +kernel
theorem dX4_init_4 : decode cX4_init 4 = .ok (.aload_n 0, 1) := by decide +kernel
theorem dX4_init_5 : decode cX4_init 5 = .ok (.iconst 2, 1) := by decide +kernel
theorem dX4_init_6 : decode cX4_init 6 = .ok (.bipush 40, 2) := by decide +kernel
theorem dX4_init_8 : decode cX4_init 8 = .ok (.multianewarray 9 2, 4) := by decide +kernel
theorem dX4_init_12 : decode cX4_init 12 = .ok (.putfield 11, 3) := by decide +kernel
theorem dX4_init_15 : decode cX4_init 15 = .ok (.aload_n 0, 1) := by decide +kernel
theorem dX4_init_16 : decode cX4_init 16 = .ok (.iconst 3, 1) := by decide +kernel
theorem dX4_init_17 : decode cX4_init 17 = .ok (.sipush 640, 3) := by decide +kernel
theorem dX4_init_20 : decode cX4_init 20 = .ok (.multianewarray 9 2, 4) := by decide +kernel
theorem dX4_init_24 : decode cX4_init 24 = .ok (.putfield 16, 3) := by decide +kernel
theorem dX4_init_27 : decode cX4_init 27 = .ok (.aload_n 0, 1) := by decide +kernel
theorem dX4_init_28 : decode cX4_init 28 = .ok (.bipush 40, 2) := by decide +kernel
theorem dX4_init_30 : decode cX4_init 30 = .ok (.newarray .int, 2) := by decide +kernel
theorem dX4_init_32 : decode cX4_init 32 = .ok (.putfield 19, 3) := by decide +kernel
theorem dX4_init_35 : decode cX4_init 35 = .ok (.aload_n 0, 1) := by decide +kernel
theorem dX4_init_36 : decode cX4_init 36 = .ok (.bipush 40, 2) := by decide +kernel
theorem dX4_init_38 : decode cX4_init 38 = .ok (.newarray .int, 2) := by decide +kernel
theorem dX4_init_40 : decode cX4_init 40 = .ok (.putfield 23, 3) := by decide +kernel
theorem dX4_init_43 : decode cX4_init 43 = .ok (.aload_n 0, 1) := by decide +kernel
theorem dX4_init_44 : decode cX4_init 44 = .ok (.iconst (-1), 1) := by decide +kernel
theorem dX4_init_45 : decode cX4_init 45 = .ok (.putfield 26, 3) := by decide +kernel
theorem dX4_init_48 : decode cX4_init 48 = .ok (.aload_n 0, 1) := by decide +kernel
theorem dX4_init_49 : decode cX4_init 49 = .ok (.aload_n 1, 1) := by decide +kernel
theorem dX4_init_50 : decode cX4_init 50 = .ok (.putfield 30, 3) := by decide +kernel
theorem dX4_init_53 : decode cX4_init 53 = .ok (.aload_n 0, 1) := by decide +kernel
theorem dX4_init_54 : decode cX4_init 54 = .ok (.aload_n 2, 1) := by decide +kernel
theorem dX4_init_55 : decode cX4_init 55 = .ok (.putfield 34, 3) := by decide +kernel
theorem dX4_init_58 : decode cX4_init 58 = .ok (.aload_n 0, 1) := by decide +kernel
theorem dX4_init_59 : decode cX4_init 59 = .ok (.aload_n 3, 1) := by decide +kernel
theorem dX4_init_60 : decode cX4_init 60 = .ok (.putfield 38, 3) := by decide +kernel
theorem dX4_init_63 : decode cX4_init 63 = .ok (.aload_n 0, 1) := by decide +kernel
theorem dX4_init_64 : decode cX4_init 64 = .ok (.aload 4, 2) := by decide +kernel
theorem dX4_init_66 : decode cX4_init 66 = .ok (.putfield 42, 3) := by decide +kernel
theorem dX4_init_69 : decode cX4_init 69 = .ok (.aload_n 0, 1) := by decide +kernel
theorem dX4_init_70 : decode cX4_init 70 = .ok (.aload 5, 2) := by decide +kernel
theorem dX4_init_72 : decode cX4_init 72 = .ok (.putfield 46, 3) := by decide +kernel
theorem dX4_init_75 : decode cX4_init 75 = .ok (.return_, 1) := by decide +kernel
theorem dX4_forget_0 : decode cX4_forget 0 = .ok (.aload_n 0, 1) := by decide +kernel
theorem dX4_forget_1 : decode cX4_forget 1 = .ok (.iconst (-1), 1) := by decide +kernel
theorem dX4_forget_2 : decode cX4_forget 2 = .ok (.putfield 26, 3) := by decide +kernel
theorem dX4_forget_5 : decode cX4_forget 5 = .ok (.return_, 1) := by decide +kernel
theorem dX4_show_0 : decode cX4_show 0 = .ok (.aload_n 0, 1) := by decide +kernel
theorem dX4_show_1 : decode cX4_show 1 = .ok (.getfield 26, 3) := by decide +kernel
theorem dX4_show_4 : decode cX4_show 4 = .ok (.iconst (-1), 1) := by decide +kernel
theorem dX4_show_5 : decode cX4_show 5 = .ok (.if_icmp .eq 11, 3) := by decide +kernel
theorem dX4_show_8 : decode cX4_show 8 = .ok (.iload_n 1, 1) := by decide +kernel
theorem dX4_show_9 : decode cX4_show 9 = .ok (.aload_n 0, 1) := by decide +kernel
theorem dX4_show_10 : decode cX4_show 10 = .ok (.getfield 26, 3) := by decide +kernel
theorem dX4_show_13 : decode cX4_show 13 = .ok (.if_icmp .ge 7, 3) := by decide +kernel
theorem dX4_show_16 : decode cX4_show 16 = .ok (.aload_n 0, 1) := by decide +kernel
theorem dX4_show_17 : decode cX4_show 17 = .ok (.invokevirtual 50, 3) := by decide +kernel
theorem dX4_show_20 : decode cX4_show 20 = .ok (.aload_n 0, 1) := by decide +kernel
theorem dX4_show_21 : decode cX4_show 21 = .ok (.getfield 53, 3) := by decide +kernel
theorem dX4_show_24 : decode cX4_show 24 = .ok (.aload_n 0, 1) := by decide +kernel
theorem dX4_show_25 : decode cX4_show 25 = .ok (.getfield 42, 3) := by decide +kernel
theorem dX4_show_28 : decode cX4_show 28 = .ok (.getfield 56, 3) := by decide +kernel
theorem dX4_show_31 : decode cX4_show 31 = .ok (.if_icmp .ge 51, 3) := by decide +kernel
theorem dX4_show_34 : decode cX4_show 34 = .ok (.aload_n 0, 1) := by decide +kernel
theorem dX4_show_35 : decode cX4_show 35 = .ok (.getfield 42, 3) := by decide +kernel
theorem dX4_show_38 : decode cX4_show 38 = .ok (.getfield 61, 3) := by decide +kernel
theorem dX4_show_41 : decode cX4_show 41 = .ok (.aload_n 0, 1) := by decide +kernel
theorem dX4_show_42 : decode cX4_show 42 = .ok (.getfield 53, 3) := by decide +kernel
theorem dX4_show_45 : decode cX4_show 45 = .ok (.aaload, 1) := by decide +kernel
theorem dX4_show_46 : decode cX4_show 46 = .ok (.getfield 65, 3) := by decide +kernel
theorem dX4_show_49 : decode cX4_show 49 = .ok (.iload_n 1, 1) := by decide +kernel
theorem dX4_show_50 : decode cX4_show 50 = .ok (.if_icmp .gt 32, 3) := by decide +kernel
theorem dX4_show_53 : decode cX4_show 53 = .ok (.aload_n 0, 1) := by decide +kernel
theorem dX4_show_54 : decode cX4_show 54 = .ok (.aload_n 0, 1) := by decide +kernel
theorem dX4_show_55 : decode cX4_show 55 = .ok (.getfield 42, 3) := by decide +kernel
theorem dX4_show_58 : decode cX4_show 58 = .ok (.getfield 61, 3) := by decide +kernel
theorem dX4_show_61 : decode cX4_show 61 = .ok (.aload_n 0, 1) := by decide +kernel
theorem dX4_show_62 : decode cX4_show 62 = .ok (.getfield 53, 3) := by decide +kernel
theorem dX4_show_65 : decode cX4_show 65 = .ok (.aaload, 1) := by decide +kernel
theorem dX4_show_66 : decode cX4_show 66 = .ok (.invokevirtual 70, 3) := by decide +kernel
theorem dX4_show_69 : decode cX4_show 69 = .ok (.aload_n 0, 1) := by decide +kernel
theorem dX4_show_70 : decode cX4_show 70 = .ok (.dup, 1) := by decide +kernel
theorem dX4_show_71 : decode cX4_show 71 = .ok (.getfield 53, 3) := by decide +kernel
theorem dX4_show_74 : decode cX4_show 74 = .ok (.iconst 1, 1) := by decide +kernel
theorem dX4_show_75 : decode cX4_show 75 = .ok (.iadd, 1) := by decide +kernel
theorem dX4_show_76 : decode cX4_show 76 = .ok (.putfield 53, 3) := by decide +kernel
theorem dX4_show_79 : decode cX4_show 79 = .ok (.goto (-59), 3) := by decide +kernel
theorem dX4_show_82 : decode cX4_show 82 = .ok (.aload_n 0, 1) := by decide +kernel
theorem dX4_show_83 : decode cX4_show 83 = .ok (.iload_n 1, 1) := by decide +kernel
theorem dX4_show_84 : decode cX4_show 84 = .ok (.putfield 26, 3) := by decide +kernel
theorem dX4_show_87 : decode cX4_show 87 = .ok (.return_, 1) := by decide +kernel
theorem dX4_begin_0 : decode cX4_begin 0 = .ok (.aload_n 0, 1) := by decide +kernel
theorem dX4_begin_1 : decode cX4_begin 1 = .ok (.iconst 0, 1) := by decide +kernel
theorem dX4_begin_2 : decode cX4_begin 2 = .ok (.putfield 53, 3) := by decide +kernel
theorem dX4_begin_5 : decode cX4_begin 5 = .ok (.aload_n 0, 1) := by decide +kernel
theorem dX4_begin_6 : decode cX4_begin 6 = .ok (.getfield 46, 3) := by decide +kernel
theorem dX4_begin_9 : decode cX4_begin 9 = .ok (.invokevirtual 74, 3) := by decide +kernel
theorem dX4_begin_12 : decode cX4_begin 12 = .ok (.aload_n 0, 1) := by decide +kernel
theorem dX4_begin_13 : decode cX4_begin 13 = .ok (.getfield 19, 3) := by decide +kernel
theorem dX4_begin_16 : decode cX4_begin 16 = .ok (.iconst 0, 1) := by decide +kernel
theorem dX4_begin_17 : decode cX4_begin 17 = .ok (.invokestatic 79, 3) := by decide +kernel
theorem dX4_begin_20 : decode cX4_begin 20 = .ok (.aload_n 0, 1) := by decide +kernel
theorem dX4_begin_21 : decode cX4_begin 21 = .ok (.getfield 23, 3) := by decide +kernel
theorem dX4_begin_24 : decode cX4_begin 24 = .ok (.iconst 0, 1) := by decide +kernel
theorem dX4_begin_25 : decode cX4_begin 25 = .ok (.invokestatic 79, 3) := by decide +kernel
theorem dX4_begin_28 : decode cX4_begin 28 = .ok (.iconst 0, 1) := by decide +kernel
theorem dX4_begin_29 : decode cX4_begin 29 = .ok (.istore_n 1, 1) := by decide +kernel
theorem dX4_begin_30 : decode cX4_begin 30 = .ok (.iload_n 1, 1) := by decide +kernel
theorem dX4_begin_31 : decode cX4_begin 31 = .ok (.bipush 40, 2) := by decide +kernel
theorem dX4_begin_33 : decode cX4_begin 33 = .ok (.if_icmp .ge 25, 3) := by decide +kernel
theorem dX4_begin_36 : decode cX4_begin 36 = .ok (.aload_n 0, 1) := by decide +kernel
theorem dX4_begin_37 : decode cX4_begin 37 = .ok (.getfield 30, 3) := by decide +kernel
theorem dX4_begin_40 : decode cX4_begin 40 = .ok (.iload_n 1, 1) := by decide +kernel
theorem dX4_begin_41 : decode cX4_begin 41 = .ok (.invokevirtual 85, 3) := by decide +kernel
theorem dX4_begin_44 : decode cX4_begin 44 = .ok (.ifCond .eq 8, 3) := by decide +kernel
theorem dX4_begin_47 : decode cX4_begin 47 = .ok (.aload_n 0, 1) := by decide +kernel
theorem dX4_begin_48 : decode cX4_begin 48 = .ok (.iload_n 1, 1) := by decide +kernel
theorem dX4_begin_49 : decode cX4_begin 49 = .ok (.invokevirtual 91, 3) := by decide +kernel
theorem dX4_begin_52 : decode cX4_begin 52 = .ok (.iinc 1 1, 3) := by decide +kernel
theorem dX4_begin_55 : decode cX4_begin 55 = .ok (.goto (-25), 3) := by decide +kernel
theorem dX4_begin_58 : decode cX4_begin 58 = .ok (.return_, 1) := by decide +kernel
theorem dX4_beginThing_0 : decode cX4_beginThing 0 = .ok (.aload_n 0, 1) := by decide +kernel
theorem dX4_beginThing_1 : decode cX4_beginThing 1 = .ok (.getfield 11, 3) := by decide +kernel
theorem dX4_beginThing_4 : decode cX4_beginThing 4 = .ok (.iconst 0, 1) := by decide +kernel
theorem dX4_beginThing_5 : decode cX4_beginThing 5 = .ok (.aaload, 1) := by decide +kernel
theorem dX4_beginThing_6 : decode cX4_beginThing 6 = .ok (.iload_n 1, 1) := by decide +kernel
theorem dX4_beginThing_7 : decode cX4_beginThing 7 = .ok (.aload_n 0, 1) := by decide +kernel
theorem dX4_beginThing_8 : decode cX4_beginThing 8 = .ok (.getfield 30, 3) := by decide +kernel
theorem dX4_beginThing_11 : decode cX4_beginThing 11 = .ok (.getfield 95, 3) := by decide +kernel
theorem dX4_beginThing_14 : decode cX4_beginThing 14 = .ok (.iconst 0, 1) := by decide +kernel
theorem dX4_beginThing_15 : decode cX4_beginThing 15 = .ok (.aaload, 1) := by decide +kernel
theorem dX4_beginThing_16 : decode cX4_beginThing 16 = .ok (.iload_n 1, 1) := by decide +kernel
theorem dX4_beginThing_17 : decode cX4_beginThing 17 = .ok (.iaload, 1) := by decide +kernel
theorem dX4_beginThing_18 : decode cX4_beginThing 18 = .ok (.iastore, 1) := by decide +kernel
theorem dX4_beginThing_19 : decode cX4_beginThing 19 = .ok (.aload_n 0, 1) := by decide +kernel
theorem dX4_beginThing_20 : decode cX4_beginThing 20 = .ok (.getfield 11, 3) := by decide +kernel
theorem dX4_beginThing_23 : decode cX4_beginThing 23 = .ok (.iconst 1, 1) := by decide +kernel
theorem dX4_beginThing_24 : decode cX4_beginThing 24 = .ok (.aaload, 1) := by decide +kernel
theorem dX4_beginThing_25 : decode cX4_beginThing 25 = .ok (.iload_n 1, 1) := by decide +kernel
theorem dX4_beginThing_26 : decode cX4_beginThing 26 = .ok (.aload_n 0, 1) := by decide +kernel
theorem dX4_beginThing_27 : decode cX4_beginThing 27 = .ok (.getfield 30, 3) := by decide +kernel
theorem dX4_beginThing_30 : decode cX4_beginThing 30 = .ok (.getfield 95, 3) := by decide +kernel
theorem dX4_beginThing_33 : decode cX4_beginThing 33 = .ok (.iconst 1, 1) := by decide +kernel
theorem dX4_beginThing_34 : decode cX4_beginThing 34 = .ok (.aaload, 1) := by decide +kernel
theorem dX4_beginThing_35 : decode cX4_beginThing 35 = .ok (.iload_n 1, 1) := by decide +kernel
theorem dX4_beginThing_36 : decode cX4_beginThing 36 = .ok (.iaload, 1) := by decide +kernel
theorem dX4_beginThing_37 : decode cX4_beginThing 37 = .ok (.iastore, 1) := by decide +kernel
theorem dX4_beginThing_38 : decode cX4_beginThing 38 = .ok (.iconst 0, 1) := by decide +kernel
theorem dX4_beginThing_39 : decode cX4_beginThing 39 = .ok (.istore_n 2, 1) := by decide +kernel
theorem dX4_beginThing_40 : decode cX4_beginThing 40 = .ok (.iload_n 2, 1) := by decide +kernel
theorem dX4_beginThing_41 : decode cX4_beginThing 41 = .ok (.bipush 16, 2) := by decide +kernel
theorem dX4_beginThing_43 : decode cX4_beginThing 43 = .ok (.if_icmp .ge 102, 3) := by decide +kernel
theorem dX4_beginThing_46 : decode cX4_beginThing 46 = .ok (.aload_n 0, 1) := by decide +kernel
theorem dX4_beginThing_47 : decode cX4_beginThing 47 = .ok (.getfield 34, 3) := by decide +kernel
theorem dX4_beginThing_50 : decode cX4_beginThing 50 = .ok (.iload_n 2, 1) := by decide +kernel
theorem dX4_beginThing_51 : decode cX4_beginThing 51 = .ok (.invokevirtual 98, 3) := by decide +kernel
theorem dX4_beginThing_54 : decode cX4_beginThing 54 = .ok (.ifCond .eq 85, 3) := by decide +kernel
theorem dX4_beginThing_57 : decode cX4_beginThing 57 = .ok (.iload_n 1, 1) := by decide +kernel
theorem dX4_beginThing_58 : decode cX4_beginThing 58 = .ok (.bipush 16, 2) := by decide +kernel
theorem dX4_beginThing_60 : decode cX4_beginThing 60 = .ok (.imul, 1) := by decide +kernel
theorem dX4_beginThing_61 : decode cX4_beginThing 61 = .ok (.iload_n 2, 1) := by decide +kernel
theorem dX4_beginThing_62 : decode cX4_beginThing 62 = .ok (.iadd, 1) := by decide +kernel
theorem dX4_beginThing_63 : decode cX4_beginThing 63 = .ok (.istore_n 3, 1) := by decide +kernel
theorem dX4_beginThing_64 : decode cX4_beginThing 64 = .ok (.aload_n 0, 1) := by decide +kernel
theorem dX4_beginThing_65 : decode cX4_beginThing 65 = .ok (.getfield 16, 3) := by decide +kernel
theorem dX4_beginThing_68 : decode cX4_beginThing 68 = .ok (.iconst 0, 1) := by decide +kernel
theorem dX4_beginThing_69 : decode cX4_beginThing 69 = .ok (.aaload, 1) := by decide +kernel
theorem dX4_beginThing_70 : decode cX4_beginThing 70 = .ok (.iload_n 3, 1) := by decide +kernel
theorem dX4_beginThing_71 : decode cX4_beginThing 71 = .ok (.aload_n 0, 1) := by decide +kernel
theorem dX4_beginThing_72 : decode cX4_beginThing 72 = .ok (.getfield 11, 3) := by decide +kernel
theorem dX4_beginThing_75 : decode cX4_beginThing 75 = .ok (.iconst 0, 1) := by decide +kernel
theorem dX4_beginThing_76 : decode cX4_beginThing 76 = .ok (.aaload, 1) := by decide +kernel
theorem dX4_beginThing_77 : decode cX4_beginThing 77 = .ok (.iload_n 1, 1) := by decide +kernel
theorem dX4_beginThing_78 : decode cX4_beginThing 78 = .ok (.iaload, 1) := by decide +kernel
theorem dX4_beginThing_79 : decode cX4_beginThing 79 = .ok (.aload_n 0, 1) := by decide +kernel
theorem dX4_beginThing_80 : decode cX4_beginThing 80 = .ok (.getfield 34, 3) := by decide +kernel
theorem dX4_beginThing_83 : decode cX4_beginThing 83 = .ok (.getfield 101, 3) := by decide +kernel
theorem dX4_beginThing_86 : decode cX4_beginThing 86 = .ok (.iconst 0, 1) := by decide +kernel
theorem dX4_beginThing_87 : decode cX4_beginThing 87 = .ok (.aaload, 1) := by decide +kernel
theorem dX4_beginThing_88 : decode cX4_beginThing 88 = .ok (.iload_n 2, 1) := by decide +kernel
theorem dX4_beginThing_89 : decode cX4_beginThing 89 = .ok (.iaload, 1) := by decide +kernel
theorem dX4_beginThing_90 : decode cX4_beginThing 90 = .ok (.iadd, 1) := by decide +kernel
theorem dX4_beginThing_91 : decode cX4_beginThing 91 = .ok (.iastore, 1) := by decide +kernel
theorem dX4_beginThing_92 : decode cX4_beginThing 92 = .ok (.aload_n 0, 1) := by decide +kernel
theorem dX4_beginThing_93 : decode cX4_beginThing 93 = .ok (.getfield 16, 3) := by decide +kernel
theorem dX4_beginThing_96 : decode cX4_beginThing 96 = .ok (.iconst 1, 1) := by decide +kernel
theorem dX4_beginThing_97 : decode cX4_beginThing 97 = .ok (.aaload, 1) := by decide +kernel
theorem dX4_beginThing_98 : decode cX4_beginThing 98 = .ok (.iload_n 3, 1) := by decide +kernel
theorem dX4_beginThing_99 : decode cX4_beginThing 99 = .ok (.aload_n 0, 1) := by decide +kernel
theorem dX4_beginThing_100 : decode cX4_beginThing 100 = .ok (.getfield 11, 3) := by decide +kernel
theorem dX4_beginThing_103 : decode cX4_beginThing 103 = .ok (.iconst 1, 1) := by decide +kernel
theorem dX4_beginThing_104 : decode cX4_beginThing 104 = .ok (.aaload, 1) := by decide +kernel
theorem dX4_beginThing_105 : decode cX4_beginThing 105 = .ok (.iload_n 1, 1) := by decide +kernel
theorem dX4_beginThing_106 : decode cX4_beginThing 106 = .ok (.iaload, 1) := by decide +kernel
theorem dX4_beginThing_107 : decode cX4_beginThing 107 = .ok (.aload_n 0, 1) := by decide +kernel
theorem dX4_beginThing_108 : decode cX4_beginThing 108 = .ok (.getfield 34, 3) := by decide +kernel
theorem dX4_beginThing_111 : decode cX4_beginThing 111 = .ok (.getfield 101, 3) := by decide +kernel
theorem dX4_beginThing_114 : decode cX4_beginThing 114 = .ok (.iconst 1, 1) := by decide +kernel
theorem dX4_beginThing_115 : decode cX4_beginThing 115 = .ok (.aaload, 1) := by decide +kernel
theorem dX4_beginThing_116 : decode cX4_beginThing 116 = .ok (.iload_n 2, 1) := by decide +kernel
theorem dX4_beginThing_117 : decode cX4_beginThing 117 = .ok (.iaload, 1) := by decide +kernel
theorem dX4_beginThing_118 : decode cX4_beginThing 118 = .ok (.iadd, 1) := by decide +kernel
theorem dX4_beginThing_119 : decode cX4_beginThing 119 = .ok (.iastore, 1) := by decide +kernel
theorem dX4_beginThing_120 : decode cX4_beginThing 120 = .ok (.aload_n 0, 1) := by decide +kernel
theorem dX4_beginThing_121 : decode cX4_beginThing 121 = .ok (.getfield 16, 3) := by decide +kernel
theorem dX4_beginThing_124 : decode cX4_beginThing 124 = .ok (.iconst 2, 1) := by decide +kernel
theorem dX4_beginThing_125 : decode cX4_beginThing 125 = .ok (.aaload, 1) := by decide +kernel
theorem dX4_beginThing_126 : decode cX4_beginThing 126 = .ok (.iload_n 3, 1) := by decide +kernel
theorem dX4_beginThing_127 : decode cX4_beginThing 127 = .ok (.aload_n 0, 1) := by decide +kernel
theorem dX4_beginThing_128 : decode cX4_beginThing 128 = .ok (.getfield 34, 3) := by decide +kernel
theorem dX4_beginThing_131 : decode cX4_beginThing 131 = .ok (.getfield 101, 3) := by decide +kernel
theorem dX4_beginThing_134 : decode cX4_beginThing 134 = .ok (.iconst 2, 1) := by decide +kernel
theorem dX4_beginThing_135 : decode cX4_beginThing 135 = .ok (.aaload, 1) := by decide +kernel
theorem dX4_beginThing_136 : decode cX4_beginThing 136 = .ok (.iload_n 2, 1) := by decide +kernel
theorem dX4_beginThing_137 : decode cX4_beginThing 137 = .ok (.iaload, 1) := by decide +kernel
theorem dX4_beginThing_138 : decode cX4_beginThing 138 = .ok (.iastore, 1) := by decide +kernel
theorem dX4_beginThing_139 : decode cX4_beginThing 139 = .ok (.iinc 2 1, 3) := by decide +kernel
theorem dX4_beginThing_142 : decode cX4_beginThing 142 = .ok (.goto (-102), 3) := by decide +kernel
theorem dX4_beginThing_145 : decode cX4_beginThing 145 = .ok (.return_, 1) := by decide +kernel
theorem dX4_happen_0 : decode cX4_happen 0 = .ok (.aload_n 1, 1) := by decide +kernel
theorem dX4_happen_1 : decode cX4_happen 1 = .ok (.getfield 104, 3) := by decide +kernel
theorem dX4_happen_4 : decode cX4_happen 4 = .ok (.tableswitch 87 0 4 #[36, 48, 63, 71, 79], 36) := by decide +kernel
theorem dX4_happen_40 : decode cX4_happen 40 = .ok (.aload_n 0, 1) := by decide +kernel
theorem dX4_happen_41 : decode cX4_happen 41 = .ok (.getfield 46, 3) := by decide +kernel
theorem dX4_happen_44 : decode cX4_happen 44 = .ok (.aload_n 1, 1) := by decide +kernel
theorem dX4_happen_45 : decode cX4_happen 45 = .ok (.invokevirtual 107, 3) := by decide +kernel
theorem dX4_happen_48 : decode cX4_happen 48 = .ok (.pop, 1) := by decide +kernel
theorem dX4_happen_49 : decode cX4_happen 49 = .ok (.goto 60, 3) := by decide +kernel
theorem dX4_happen_52 : decode cX4_happen 52 = .ok (.aload_n 0, 1) := by decide +kernel
theorem dX4_happen_53 : decode cX4_happen 53 = .ok (.getfield 46, 3) := by decide +kernel
theorem dX4_happen_56 : decode cX4_happen 56 = .ok (.aload_n 1, 1) := by decide +kernel
theorem dX4_happen_57 : decode cX4_happen 57 = .ok (.getfield 111, 3) := by decide +kernel
theorem dX4_happen_60 : decode cX4_happen 60 = .ok (.invokevirtual 114, 3) := by decide +kernel
theorem dX4_happen_63 : decode cX4_happen 63 = .ok (.pop, 1) := by decide +kernel
theorem dX4_happen_64 : decode cX4_happen 64 = .ok (.goto 45, 3) := by decide +kernel
theorem dX4_happen_67 : decode cX4_happen 67 = .ok (.aload_n 0, 1) := by decide +kernel
theorem dX4_happen_68 : decode cX4_happen 68 = .ok (.aload_n 1, 1) := by decide +kernel
theorem dX4_happen_69 : decode cX4_happen 69 = .ok (.invokevirtual 117, 3) := by decide +kernel
theorem dX4_happen_72 : decode cX4_happen 72 = .ok (.goto 37, 3) := by decide +kernel
theorem dX4_happen_75 : decode cX4_happen 75 = .ok (.aload_n 0, 1) := by decide +kernel
theorem dX4_happen_76 : decode cX4_happen 76 = .ok (.aload_n 1, 1) := by decide +kernel
theorem dX4_happen_77 : decode cX4_happen 77 = .ok (.invokevirtual 120, 3) := by decide +kernel
theorem dX4_happen_80 : decode cX4_happen 80 = .ok (.goto 29, 3) := by decide +kernel
theorem dX4_happen_83 : decode cX4_happen 83 = .ok (.aload_n 0, 1) := by decide +kernel
theorem dX4_happen_84 : decode cX4_happen 84 = .ok (.aload_n 1, 1) := by decide +kernel
theorem dX4_happen_85 : decode cX4_happen 85 = .ok (.invokevirtual 123, 3) := by decide +kernel
theorem dX4_happen_88 : decode cX4_happen 88 = .ok (.goto 21, 3) := by decide +kernel
theorem dX4_happen_91 : decode cX4_happen 91 = .ok (.aload_n 0, 1) := by decide +kernel
theorem dX4_happen_92 : decode cX4_happen 92 = .ok (.getfield 23, 3) := by decide +kernel
theorem dX4_happen_95 : decode cX4_happen 95 = .ok (.aload_n 1, 1) := by decide +kernel
theorem dX4_happen_96 : decode cX4_happen 96 = .ok (.getfield 111, 3) := by decide +kernel
theorem dX4_happen_99 : decode cX4_happen 99 = .ok (.dup2, 1) := by decide +kernel
theorem dX4_happen_100 : decode cX4_happen 100 = .ok (.iaload, 1) := by decide +kernel
theorem dX4_happen_101 : decode cX4_happen 101 = .ok (.iconst 1, 1) := by decide +kernel
theorem dX4_happen_102 : decode cX4_happen 102 = .ok (.aload_n 1, 1) := by decide +kernel
theorem dX4_happen_103 : decode cX4_happen 103 = .ok (.getfield 126, 3) := by decide +kernel
theorem dX4_happen_106 : decode cX4_happen 106 = .ok (.ishl, 1) := by decide +kernel
theorem dX4_happen_107 : decode cX4_happen 107 = .ok (.ior, 1) := by decide +kernel
theorem dX4_happen_108 : decode cX4_happen 108 = .ok (.iastore, 1) := by decide +kernel
theorem dX4_happen_109 : decode cX4_happen 109 = .ok (.return_, 1) := by decide +kernel
theorem dX4_fly_0 : decode cX4_fly 0 = .ok (.iconst 0, 1) := by decide +kernel
theorem dX4_fly_1 : decode cX4_fly 1 = .ok (.istore_n 2, 1) := by decide +kernel
theorem dX4_fly_2 : decode cX4_fly 2 = .ok (.iload_n 2, 1) := by decide +kernel
theorem dX4_fly_3 : decode cX4_fly 3 = .ok (.bipush 40, 2) := by decide +kernel
theorem dX4_fly_5 : decode cX4_fly 5 = .ok (.if_icmp .ge 54, 3) := by decide +kernel
theorem dX4_fly_8 : decode cX4_fly 8 = .ok (.aload_n 0, 1) := by decide +kernel
theorem dX4_fly_9 : decode cX4_fly 9 = .ok (.getfield 46, 3) := by decide +kernel
theorem dX4_fly_12 : decode cX4_fly 12 = .ok (.iload_n 2, 1) := by decide +kernel
theorem dX4_fly_13 : decode cX4_fly 13 = .ok (.invokevirtual 129, 3) := by decide +kernel
theorem dX4_fly_16 : decode cX4_fly 16 = .ok (.aload_n 1, 1) := by decide +kernel
theorem dX4_fly_17 : decode cX4_fly 17 = .ok (.getfield 111, 3) := by decide +kernel
theorem dX4_fly_20 : decode cX4_fly 20 = .ok (.if_icmp .ne 33, 3) := by decide +kernel
theorem dX4_fly_23 : decode cX4_fly 23 = .ok (.aload_n 0, 1) := by decide +kernel
theorem dX4_fly_24 : decode cX4_fly 24 = .ok (.getfield 11, 3) := by decide +kernel
theorem dX4_fly_27 : decode cX4_fly 27 = .ok (.iconst 0, 1) := by decide +kernel
theorem dX4_fly_28 : decode cX4_fly 28 = .ok (.aaload, 1) := by decide +kernel
theorem dX4_fly_29 : decode cX4_fly 29 = .ok (.iload_n 2, 1) := by decide +kernel
theorem dX4_fly_30 : decode cX4_fly 30 = .ok (.dup2, 1) := by decide +kernel
theorem dX4_fly_31 : decode cX4_fly 31 = .ok (.iaload, 1) := by decide +kernel
theorem dX4_fly_32 : decode cX4_fly 32 = .ok (.aload_n 1, 1) := by decide +kernel
theorem dX4_fly_33 : decode cX4_fly 33 = .ok (.getfield 133, 3) := by decide +kernel
theorem dX4_fly_36 : decode cX4_fly 36 = .ok (.iadd, 1) := by decide +kernel
theorem dX4_fly_37 : decode cX4_fly 37 = .ok (.iastore, 1) := by decide +kernel
theorem dX4_fly_38 : decode cX4_fly 38 = .ok (.aload_n 0, 1) := by decide +kernel
theorem dX4_fly_39 : decode cX4_fly 39 = .ok (.getfield 11, 3) := by decide +kernel
theorem dX4_fly_42 : decode cX4_fly 42 = .ok (.iconst 1, 1) := by decide +kernel
theorem dX4_fly_43 : decode cX4_fly 43 = .ok (.aaload, 1) := by decide +kernel
theorem dX4_fly_44 : decode cX4_fly 44 = .ok (.iload_n 2, 1) := by decide +kernel
theorem dX4_fly_45 : decode cX4_fly 45 = .ok (.dup2, 1) := by decide +kernel
theorem dX4_fly_46 : decode cX4_fly 46 = .ok (.iaload, 1) := by decide +kernel
theorem dX4_fly_47 : decode cX4_fly 47 = .ok (.aload_n 1, 1) := by decide +kernel
theorem dX4_fly_48 : decode cX4_fly 48 = .ok (.getfield 136, 3) := by decide +kernel
theorem dX4_fly_51 : decode cX4_fly 51 = .ok (.iadd, 1) := by decide +kernel
theorem dX4_fly_52 : decode cX4_fly 52 = .ok (.iastore, 1) := by decide +kernel
theorem dX4_fly_53 : decode cX4_fly 53 = .ok (.iinc 2 1, 3) := by decide +kernel
theorem dX4_fly_56 : decode cX4_fly 56 = .ok (.goto (-54), 3) := by decide +kernel
theorem dX4_fly_59 : decode cX4_fly 59 = .ok (.return_, 1) := by decide +kernel
theorem dX4_doTask_0 : decode cX4_doTask 0 = .ok (.aload_n 1, 1) := by decide +kernel
theorem dX4_doTask_1 : decode cX4_doTask 1 = .ok (.getfield 126, 3) := by decide +kernel
theorem dX4_doTask_4 : decode cX4_doTask 4 = .ok (.istore_n 2, 1) := by decide +kernel
theorem dX4_doTask_5 : decode cX4_doTask 5 = .ok (.aload_n 1, 1) := by decide +kernel
theorem dX4_doTask_6 : decode cX4_doTask 6 = .ok (.getfield 111, 3) := by decide +kernel
theorem dX4_doTask_9 : decode cX4_doTask 9 = .ok (.bipush 16, 2) := by decide +kernel
theorem dX4_doTask_11 : decode cX4_doTask 11 = .ok (.imul, 1) := by decide +kernel
theorem dX4_doTask_12 : decode cX4_doTask 12 = .ok (.iload_n 2, 1) := by decide +kernel
theorem dX4_doTask_13 : decode cX4_doTask 13 = .ok (.iadd, 1) := by decide +kernel
theorem dX4_doTask_14 : decode cX4_doTask 14 = .ok (.istore_n 3, 1) := by decide +kernel
theorem dX4_doTask_15 : decode cX4_doTask 15 = .ok (.iconst 0, 1) := by decide +kernel
theorem dX4_doTask_16 : decode cX4_doTask 16 = .ok (.istore 4, 2) := by decide +kernel
theorem dX4_doTask_18 : decode cX4_doTask 18 = .ok (.iload 4, 2) := by decide +kernel
theorem dX4_doTask_20 : decode cX4_doTask 20 = .ok (.iconst 3, 1) := by decide +kernel
theorem dX4_doTask_21 : decode cX4_doTask 21 = .ok (.if_icmp .ge 114, 3) := by decide +kernel
theorem dX4_doTask_24 : decode cX4_doTask 24 = .ok (.aload_n 0, 1) := by decide +kernel
theorem dX4_doTask_25 : decode cX4_doTask 25 = .ok (.aload_n 1, 1) := by decide +kernel
theorem dX4_doTask_26 : decode cX4_doTask 26 = .ok (.getfield 111, 3) := by decide +kernel
theorem dX4_doTask_29 : decode cX4_doTask 29 = .ok (.iload 4, 2) := by decide +kernel
theorem dX4_doTask_31 : decode cX4_doTask 31 = .ok (.aload_n 1, 1) := by decide +kernel
theorem dX4_doTask_32 : decode cX4_doTask 32 = .ok (.getfield 65, 3) := by decide +kernel
theorem dX4_doTask_35 : decode cX4_doTask 35 = .ok (.bipush 100, 2) := by decide +kernel
theorem dX4_doTask_37 : decode cX4_doTask 37 = .ok (.idiv, 1) := by decide +kernel
theorem dX4_doTask_38 : decode cX4_doTask 38 = .ok (.invokevirtual 139, 3) := by decide +kernel
theorem dX4_doTask_41 : decode cX4_doTask 41 = .ok (.istore 5, 2) := by decide +kernel
theorem dX4_doTask_43 : decode cX4_doTask 43 = .ok (.iload 5, 2) := by decide +kernel
theorem dX4_doTask_45 : decode cX4_doTask 45 = .ok (.aload_n 0, 1) := by decide +kernel
theorem dX4_doTask_46 : decode cX4_doTask 46 = .ok (.getfield 16, 3) := by decide +kernel
theorem dX4_doTask_49 : decode cX4_doTask 49 = .ok (.iload 4, 2) := by decide +kernel
theorem dX4_doTask_51 : decode cX4_doTask 51 = .ok (.aaload, 1) := by decide +kernel
theorem dX4_doTask_52 : decode cX4_doTask 52 = .ok (.iload_n 3, 1) := by decide +kernel
theorem dX4_doTask_53 : decode cX4_doTask 53 = .ok (.iaload, 1) := by decide +kernel
theorem dX4_doTask_54 : decode cX4_doTask 54 = .ok (.isub, 1) := by decide +kernel
theorem dX4_doTask_55 : decode cX4_doTask 55 = .ok (.istore 6, 2) := by decide +kernel
theorem dX4_doTask_57 : decode cX4_doTask 57 = .ok (.iload 6, 2) := by decide +kernel
theorem dX4_doTask_59 : decode cX4_doTask 59 = .ok (.ifCond .le 22, 3) := by decide +kernel
theorem dX4_doTask_62 : decode cX4_doTask 62 = .ok (.iload 6, 2) := by decide +kernel
theorem dX4_doTask_64 : decode cX4_doTask 64 = .ok (.aload_n 0, 1) := by decide +kernel
theorem dX4_doTask_65 : decode cX4_doTask 65 = .ok (.getfield 34, 3) := by decide +kernel
theorem dX4_doTask_68 : decode cX4_doTask 68 = .ok (.iload_n 2, 1) := by decide +kernel
theorem dX4_doTask_69 : decode cX4_doTask 69 = .ok (.iload 4, 2) := by decide +kernel
theorem dX4_doTask_71 : decode cX4_doTask 71 = .ok (.invokevirtual 143, 3) := by decide +kernel
theorem dX4_doTask_74 : decode cX4_doTask 74 = .ok (.if_icmp .gt 7, 3) := by decide +kernel
theorem dX4_doTask_77 : decode cX4_doTask 77 = .ok (.iconst 1, 1) := by decide +kernel
theorem dX4_doTask_78 : decode cX4_doTask 78 = .ok (.goto 4, 3) := by decide +kernel
theorem dX4_doTask_81 : decode cX4_doTask 81 = .ok (.iconst 0, 1) := by decide +kernel
theorem dX4_doTask_82 : decode cX4_doTask 82 = .ok (.istore 7, 2) := by decide +kernel
theorem dX4_doTask_84 : decode cX4_doTask 84 = .ok (.iload 7, 2) := by decide +kernel
theorem dX4_doTask_86 : decode cX4_doTask 86 = .ok (.ifCond .eq 15, 3) := by decide +kernel
theorem dX4_doTask_89 : decode cX4_doTask 89 = .ok (.aload_n 0, 1) := by decide +kernel
theorem dX4_doTask_90 : decode cX4_doTask 90 = .ok (.getfield 16, 3) := by decide +kernel
theorem dX4_doTask_93 : decode cX4_doTask 93 = .ok (.iload 4, 2) := by decide +kernel
theorem dX4_doTask_95 : decode cX4_doTask 95 = .ok (.aaload, 1) := by decide +kernel
theorem dX4_doTask_96 : decode cX4_doTask 96 = .ok (.iload_n 3, 1) := by decide +kernel
theorem dX4_doTask_97 : decode cX4_doTask 97 = .ok (.iaload, 1) := by decide +kernel
theorem dX4_doTask_98 : decode cX4_doTask 98 = .ok (.goto 5, 3) := by decide +kernel
theorem dX4_doTask_101 : decode cX4_doTask 101 = .ok (.iload 5, 2) := by decide +kernel
theorem dX4_doTask_103 : decode cX4_doTask 103 = .ok (.istore 8, 2) := by decide +kernel
theorem dX4_doTask_105 : decode cX4_doTask 105 = .ok (.aload_n 0, 1) := by decide +kernel
theorem dX4_doTask_106 : decode cX4_doTask 106 = .ok (.getfield 16, 3) := by decide +kernel
theorem dX4_doTask_109 : decode cX4_doTask 109 = .ok (.iload 4, 2) := by decide +kernel
theorem dX4_doTask_111 : decode cX4_doTask 111 = .ok (.aaload, 1) := by decide +kernel
theorem dX4_doTask_112 : decode cX4_doTask 112 = .ok (.iload_n 3, 1) := by decide +kernel
theorem dX4_doTask_113 : decode cX4_doTask 113 = .ok (.iload 8, 2) := by decide +kernel
theorem dX4_doTask_115 : decode cX4_doTask 115 = .ok (.aload_n 0, 1) := by decide +kernel
theorem dX4_doTask_116 : decode cX4_doTask 116 = .ok (.getfield 34, 3) := by decide +kernel
theorem dX4_doTask_119 : decode cX4_doTask 119 = .ok (.getfield 101, 3) := by decide +kernel
theorem dX4_doTask_122 : decode cX4_doTask 122 = .ok (.iload 4, 2) := by decide +kernel
theorem dX4_doTask_124 : decode cX4_doTask 124 = .ok (.aaload, 1) := by decide +kernel
theorem dX4_doTask_125 : decode cX4_doTask 125 = .ok (.iload_n 2, 1) := by decide +kernel
theorem dX4_doTask_126 : decode cX4_doTask 126 = .ok (.iaload, 1) := by decide +kernel
theorem dX4_doTask_127 : decode cX4_doTask 127 = .ok (.iadd, 1) := by decide +kernel
theorem dX4_doTask_128 : decode cX4_doTask 128 = .ok (.iastore, 1) := by decide +kernel
theorem dX4_doTask_129 : decode cX4_doTask 129 = .ok (.iinc 4 1, 3) := by decide +kernel
theorem dX4_doTask_132 : decode cX4_doTask 132 = .ok (.goto (-114), 3) := by decide +kernel
theorem dX4_doTask_135 : decode cX4_doTask 135 = .ok (.aload_n 0, 1) := by decide +kernel
theorem dX4_doTask_136 : decode cX4_doTask 136 = .ok (.getfield 19, 3) := by decide +kernel
theorem dX4_doTask_139 : decode cX4_doTask 139 = .ok (.aload_n 1, 1) := by decide +kernel
theorem dX4_doTask_140 : decode cX4_doTask 140 = .ok (.getfield 111, 3) := by decide +kernel
theorem dX4_doTask_143 : decode cX4_doTask 143 = .ok (.dup2, 1) := by decide +kernel
theorem dX4_doTask_144 : decode cX4_doTask 144 = .ok (.iaload, 1) := by decide +kernel
theorem dX4_doTask_145 : decode cX4_doTask 145 = .ok (.iconst 1, 1) := by decide +kernel
theorem dX4_doTask_146 : decode cX4_doTask 146 = .ok (.iload_n 2, 1) := by decide +kernel
theorem dX4_doTask_147 : decode cX4_doTask 147 = .ok (.ishl, 1) := by decide +kernel
theorem dX4_doTask_148 : decode cX4_doTask 148 = .ok (.iconst (-1), 1) := by decide +kernel
theorem dX4_doTask_149 : decode cX4_doTask 149 = .ok (.ixor, 1) := by decide +kernel
theorem dX4_doTask_150 : decode cX4_doTask 150 = .ok (.iand, 1) := by decide +kernel
theorem dX4_doTask_151 : decode cX4_doTask 151 = .ok (.iastore, 1) := by decide +kernel
theorem dX4_doTask_152 : decode cX4_doTask 152 = .ok (.return_, 1) := by decide +kernel
theorem dX4_postpone_0 : decode cX4_postpone 0 = .ok (.aload_n 1, 1) := by decide +kernel
theorem dX4_postpone_1 : decode cX4_postpone 1 = .ok (.getfield 126, 3) := by decide +kernel
theorem dX4_postpone_4 : decode cX4_postpone 4 = .ok (.istore_n 2, 1) := by decide +kernel
theorem dX4_postpone_5 : decode cX4_postpone 5 = .ok (.iconst 1, 1) := by decide +kernel
theorem dX4_postpone_6 : decode cX4_postpone 6 = .ok (.iload_n 2, 1) := by decide +kernel
theorem dX4_postpone_7 : decode cX4_postpone 7 = .ok (.ishl, 1) := by decide +kernel
theorem dX4_postpone_8 : decode cX4_postpone 8 = .ok (.istore_n 3, 1) := by decide +kernel
theorem dX4_postpone_9 : decode cX4_postpone 9 = .ok (.aload_n 0, 1) := by decide +kernel
theorem dX4_postpone_10 : decode cX4_postpone 10 = .ok (.getfield 19, 3) := by decide +kernel
theorem dX4_postpone_13 : decode cX4_postpone 13 = .ok (.aload_n 1, 1) := by decide +kernel
theorem dX4_postpone_14 : decode cX4_postpone 14 = .ok (.getfield 111, 3) := by decide +kernel
theorem dX4_postpone_17 : decode cX4_postpone 17 = .ok (.iaload, 1) := by decide +kernel
theorem dX4_postpone_18 : decode cX4_postpone 18 = .ok (.iload_n 3, 1) := by decide +kernel
theorem dX4_postpone_19 : decode cX4_postpone 19 = .ok (.iand, 1) := by decide +kernel
theorem dX4_postpone_20 : decode cX4_postpone 20 = .ok (.ifCond .eq 4, 3) := by decide +kernel
theorem dX4_postpone_23 : decode cX4_postpone 23 = .ok (.return_, 1) := by decide +kernel
theorem dX4_postpone_24 : decode cX4_postpone 24 = .ok (.aload_n 0, 1) := by decide +kernel
theorem dX4_postpone_25 : decode cX4_postpone 25 = .ok (.getfield 19, 3) := by decide +kernel
theorem dX4_postpone_28 : decode cX4_postpone 28 = .ok (.aload_n 1, 1) := by decide +kernel
theorem dX4_postpone_29 : decode cX4_postpone 29 = .ok (.getfield 111, 3) := by decide +kernel
theorem dX4_postpone_32 : decode cX4_postpone 32 = .ok (.dup2, 1) := by decide +kernel
theorem dX4_postpone_33 : decode cX4_postpone 33 = .ok (.iaload, 1) := by decide +kernel
theorem dX4_postpone_34 : decode cX4_postpone 34 = .ok (.iload_n 3, 1) := by decide +kernel
theorem dX4_postpone_35 : decode cX4_postpone 35 = .ok (.ior, 1) := by decide +kernel
theorem dX4_postpone_36 : decode cX4_postpone 36 = .ok (.iastore, 1) := by decide +kernel
theorem dX4_postpone_37 : decode cX4_postpone 37 = .ok (.iconst 0, 1) := by decide +kernel
theorem dX4_postpone_38 : decode cX4_postpone 38 = .ok (.istore 4, 2) := by decide +kernel
theorem dX4_postpone_40 : decode cX4_postpone 40 = .ok (.iload 4, 2) := by decide +kernel
theorem dX4_postpone_42 : decode cX4_postpone 42 = .ok (.iconst 3, 1) := by decide +kernel
theorem dX4_postpone_43 : decode cX4_postpone 43 = .ok (.if_icmp .ge 35, 3) := by decide +kernel
theorem dX4_postpone_46 : decode cX4_postpone 46 = .ok (.aload_n 0, 1) := by decide +kernel
theorem dX4_postpone_47 : decode cX4_postpone 47 = .ok (.getfield 16, 3) := by decide +kernel
theorem dX4_postpone_50 : decode cX4_postpone 50 = .ok (.iload 4, 2) := by decide +kernel
theorem dX4_postpone_52 : decode cX4_postpone 52 = .ok (.aaload, 1) := by decide +kernel
theorem dX4_postpone_53 : decode cX4_postpone 53 = .ok (.aload_n 1, 1) := by decide +kernel
theorem dX4_postpone_54 : decode cX4_postpone 54 = .ok (.getfield 111, 3) := by decide +kernel
theorem dX4_postpone_57 : decode cX4_postpone 57 = .ok (.bipush 16, 2) := by decide +kernel
theorem dX4_postpone_59 : decode cX4_postpone 59 = .ok (.imul, 1) := by decide +kernel
theorem dX4_postpone_60 : decode cX4_postpone 60 = .ok (.iload_n 2, 1) := by decide +kernel
theorem dX4_postpone_61 : decode cX4_postpone 61 = .ok (.iadd, 1) := by decide +kernel
theorem dX4_postpone_62 : decode cX4_postpone 62 = .ok (.dup2, 1) := by decide +kernel
theorem dX4_postpone_63 : decode cX4_postpone 63 = .ok (.iaload, 1) := by decide +kernel
theorem dX4_postpone_64 : decode cX4_postpone 64 = .ok (.aload_n 1, 1) := by decide +kernel
theorem dX4_postpone_65 : decode cX4_postpone 65 = .ok (.iload 4, 2) := by decide +kernel
theorem dX4_postpone_67 : decode cX4_postpone 67 = .ok (.invokevirtual 147, 3) := by decide +kernel
theorem dX4_postpone_70 : decode cX4_postpone 70 = .ok (.iadd, 1) := by decide +kernel
theorem dX4_postpone_71 : decode cX4_postpone 71 = .ok (.iastore, 1) := by decide +kernel
theorem dX4_postpone_72 : decode cX4_postpone 72 = .ok (.iinc 4 1, 3) := by decide +kernel
theorem dX4_postpone_75 : decode cX4_postpone 75 = .ok (.goto (-35), 3) := by decide +kernel
theorem dX4_postpone_78 : decode cX4_postpone 78 = .ok (.return_, 1) := by decide +kernel
theorem dX4_counterOf_0 : decode cX4_counterOf 0 = .ok (.iload_n 2, 1) := by decide +kernel
theorem dX4_counterOf_1 : decode cX4_counterOf 1 = .ok (.iconst 2, 1) := by decide +kernel
theorem dX4_counterOf_2 : decode cX4_counterOf 2 = .ok (.if_icmp .ne 17, 3) := by decide +kernel
theorem dX4_counterOf_5 : decode cX4_counterOf 5 = .ok (.iload_n 3, 1) := by decide +kernel
theorem dX4_counterOf_6 : decode cX4_counterOf 6 = .ok (.aload_n 0, 1) := by decide +kernel
theorem dX4_counterOf_7 : decode cX4_counterOf 7 = .ok (.getfield 30, 3) := by decide +kernel
theorem dX4_counterOf_10 : decode cX4_counterOf 10 = .ok (.getfield 150, 3) := by decide +kernel
theorem dX4_counterOf_13 : decode cX4_counterOf 13 = .ok (.iload_n 1, 1) := by decide +kernel
theorem dX4_counterOf_14 : decode cX4_counterOf 14 = .ok (.iaload, 1) := by decide +kernel
theorem dX4_counterOf_15 : decode cX4_counterOf 15 = .ok (.isub, 1) := by decide +kernel
theorem dX4_counterOf_16 : decode cX4_counterOf 16 = .ok (.goto 11, 3) := by decide +kernel
theorem dX4_counterOf_19 : decode cX4_counterOf 19 = .ok (.aload_n 0, 1) := by decide +kernel
theorem dX4_counterOf_20 : decode cX4_counterOf 20 = .ok (.getfield 11, 3) := by decide +kernel
theorem dX4_counterOf_23 : decode cX4_counterOf 23 = .ok (.iload_n 2, 1) := by decide +kernel
theorem dX4_counterOf_24 : decode cX4_counterOf 24 = .ok (.aaload, 1) := by decide +kernel
theorem dX4_counterOf_25 : decode cX4_counterOf 25 = .ok (.iload_n 1, 1) := by decide +kernel
theorem dX4_counterOf_26 : decode cX4_counterOf 26 = .ok (.iaload, 1) := by decide +kernel
theorem dX4_counterOf_27 : decode cX4_counterOf 27 = .ok (.ireturn, 1) := by decide +kernel
theorem dX4_binds_0 : decode cX4_binds 0 = .ok (.aload_n 0, 1) := by decide +kernel
theorem dX4_binds_1 : decode cX4_binds 1 = .ok (.getfield 38, 3) := by decide +kernel
theorem dX4_binds_4 : decode cX4_binds 4 = .ok (.iload_n 1, 1) := by decide +kernel
theorem dX4_binds_5 : decode cX4_binds 5 = .ok (.invokevirtual 153, 3) := by decide +kernel
theorem dX4_binds_8 : decode cX4_binds 8 = .ok (.ifCond .eq 41, 3) := by decide +kernel
theorem dX4_binds_11 : decode cX4_binds 11 = .ok (.aload_n 0, 1) := by decide +kernel
theorem dX4_binds_12 : decode cX4_binds 12 = .ok (.getfield 38, 3) := by decide +kernel
theorem dX4_binds_15 : decode cX4_binds 15 = .ok (.iload_n 1, 1) := by decide +kernel
theorem dX4_binds_16 : decode cX4_binds 16 = .ok (.iload_n 2, 1) := by decide +kernel
theorem dX4_binds_17 : decode cX4_binds 17 = .ok (.aload_n 0, 1) := by decide +kernel
theorem dX4_binds_18 : decode cX4_binds 18 = .ok (.getfield 30, 3) := by decide +kernel
theorem dX4_binds_21 : decode cX4_binds 21 = .ok (.getfield 156, 3) := by decide +kernel
theorem dX4_binds_24 : decode cX4_binds 24 = .ok (.iload_n 2, 1) := by decide +kernel
theorem dX4_binds_25 : decode cX4_binds 25 = .ok (.iaload, 1) := by decide +kernel
theorem dX4_binds_26 : decode cX4_binds 26 = .ok (.invokevirtual 159, 3) := by decide +kernel
theorem dX4_binds_29 : decode cX4_binds 29 = .ok (.ifCond .eq 20, 3) := by decide +kernel
theorem dX4_binds_32 : decode cX4_binds 32 = .ok (.aload_n 0, 1) := by decide +kernel
theorem dX4_binds_33 : decode cX4_binds 33 = .ok (.getfield 23, 3) := by decide +kernel
theorem dX4_binds_36 : decode cX4_binds 36 = .ok (.iload_n 2, 1) := by decide +kernel
theorem dX4_binds_37 : decode cX4_binds 37 = .ok (.iaload, 1) := by decide +kernel
theorem dX4_binds_38 : decode cX4_binds 38 = .ok (.iconst 1, 1) := by decide +kernel
theorem dX4_binds_39 : decode cX4_binds 39 = .ok (.iload_n 1, 1) := by decide +kernel
theorem dX4_binds_40 : decode cX4_binds 40 = .ok (.ishl, 1) := by decide +kernel
theorem dX4_binds_41 : decode cX4_binds 41 = .ok (.iand, 1) := by decide +kernel
theorem dX4_binds_42 : decode cX4_binds 42 = .ok (.ifCond .ne 7, 3) := by decide +kernel
theorem dX4_binds_45 : decode cX4_binds 45 = .ok (.iconst 1, 1) := by decide +kernel
theorem dX4_binds_46 : decode cX4_binds 46 = .ok (.goto 4, 3) := by decide +kernel
theorem dX4_binds_49 : decode cX4_binds 49 = .ok (.iconst 0, 1) := by decide +kernel
theorem dX4_binds_50 : decode cX4_binds 50 = .ok (.ireturn, 1) := by decide +kernel
theorem dX4_isAsked_0 : decode cX4_isAsked 0 = .ok (.aload_n 0, 1) := by decide +kernel
theorem dX4_isAsked_1 : decode cX4_isAsked 1 = .ok (.getfield 34, 3) := by decide +kernel
theorem dX4_isAsked_4 : decode cX4_isAsked 4 = .ok (.iload_n 2, 1) := by decide +kernel
theorem dX4_isAsked_5 : decode cX4_isAsked 5 = .ok (.invokevirtual 98, 3) := by decide +kernel
theorem dX4_isAsked_8 : decode cX4_isAsked 8 = .ok (.ifCond .eq 24, 3) := by decide +kernel
theorem dX4_isAsked_11 : decode cX4_isAsked 11 = .ok (.aload_n 0, 1) := by decide +kernel
theorem dX4_isAsked_12 : decode cX4_isAsked 12 = .ok (.getfield 34, 3) := by decide +kernel
theorem dX4_isAsked_15 : decode cX4_isAsked 15 = .ok (.getfield 163, 3) := by decide +kernel
theorem dX4_isAsked_18 : decode cX4_isAsked 18 = .ok (.iload_n 2, 1) := by decide +kernel
theorem dX4_isAsked_19 : decode cX4_isAsked 19 = .ok (.iaload, 1) := by decide +kernel
theorem dX4_isAsked_20 : decode cX4_isAsked 20 = .ok (.aload_n 0, 1) := by decide +kernel
theorem dX4_isAsked_21 : decode cX4_isAsked 21 = .ok (.getfield 30, 3) := by decide +kernel
theorem dX4_isAsked_24 : decode cX4_isAsked 24 = .ok (.getfield 156, 3) := by decide +kernel
theorem dX4_isAsked_27 : decode cX4_isAsked 27 = .ok (.iload_n 1, 1) := by decide +kernel
theorem dX4_isAsked_28 : decode cX4_isAsked 28 = .ok (.iaload, 1) := by decide +kernel
theorem dX4_isAsked_29 : decode cX4_isAsked 29 = .ok (.if_icmp .eq 5, 3) := by decide +kernel
theorem dX4_isAsked_32 : decode cX4_isAsked 32 = .ok (.iconst 0, 1) := by decide +kernel
theorem dX4_isAsked_33 : decode cX4_isAsked 33 = .ok (.ireturn, 1) := by decide +kernel
theorem dX4_isAsked_34 : decode cX4_isAsked 34 = .ok (.iconst 0, 1) := by decide +kernel
theorem dX4_isAsked_35 : decode cX4_isAsked 35 = .ok (.istore_n 3, 1) := by decide +kernel
theorem dX4_isAsked_36 : decode cX4_isAsked 36 = .ok (.iconst 0, 1) := by decide +kernel
theorem dX4_isAsked_37 : decode cX4_isAsked 37 = .ok (.istore 4, 2) := by decide +kernel
theorem dX4_isAsked_39 : decode cX4_isAsked 39 = .ok (.iconst 0, 1) := by decide +kernel
theorem dX4_isAsked_40 : decode cX4_isAsked 40 = .ok (.istore 5, 2) := by decide +kernel
theorem dX4_isAsked_42 : decode cX4_isAsked 42 = .ok (.iload 5, 2) := by decide +kernel
theorem dX4_isAsked_44 : decode cX4_isAsked 44 = .ok (.bipush 8, 2) := by decide +kernel
theorem dX4_isAsked_46 : decode cX4_isAsked 46 = .ok (.if_icmp .ge 84, 3) := by decide +kernel
theorem dX4_isAsked_49 : decode cX4_isAsked 49 = .ok (.aload_n 0, 1) := by decide +kernel
theorem dX4_isAsked_50 : decode cX4_isAsked 50 = .ok (.iload 5, 2) := by decide +kernel
theorem dX4_isAsked_52 : decode cX4_isAsked 52 = .ok (.iload_n 1, 1) := by decide +kernel
theorem dX4_isAsked_53 : decode cX4_isAsked 53 = .ok (.invokevirtual 164, 3) := by decide +kernel
theorem dX4_isAsked_56 : decode cX4_isAsked 56 = .ok (.istore 6, 2) := by decide +kernel
theorem dX4_isAsked_58 : decode cX4_isAsked 58 = .ok (.iload 6, 2) := by decide +kernel
theorem dX4_isAsked_60 : decode cX4_isAsked 60 = .ok (.ifCond .eq 19, 3) := by decide +kernel
theorem dX4_isAsked_63 : decode cX4_isAsked 63 = .ok (.aload_n 0, 1) := by decide +kernel
theorem dX4_isAsked_64 : decode cX4_isAsked 64 = .ok (.getfield 38, 3) := by decide +kernel
theorem dX4_isAsked_67 : decode cX4_isAsked 67 = .ok (.getfield 168, 3) := by decide +kernel
theorem dX4_isAsked_70 : decode cX4_isAsked 70 = .ok (.iload 5, 2) := by decide +kernel
theorem dX4_isAsked_72 : decode cX4_isAsked 72 = .ok (.iaload, 1) := by decide +kernel
theorem dX4_isAsked_73 : decode cX4_isAsked 73 = .ok (.iload_n 2, 1) := by decide +kernel
theorem dX4_isAsked_74 : decode cX4_isAsked 74 = .ok (.if_icmp .ne 5, 3) := by decide +kernel
theorem dX4_isAsked_77 : decode cX4_isAsked 77 = .ok (.iconst 0, 1) := by decide +kernel
theorem dX4_isAsked_78 : decode cX4_isAsked 78 = .ok (.ireturn, 1) := by decide +kernel
theorem dX4_isAsked_79 : decode cX4_isAsked 79 = .ok (.aload_n 0, 1) := by decide +kernel
theorem dX4_isAsked_80 : decode cX4_isAsked 80 = .ok (.getfield 38, 3) := by decide +kernel
theorem dX4_isAsked_83 : decode cX4_isAsked 83 = .ok (.iload 5, 2) := by decide +kernel
theorem dX4_isAsked_85 : decode cX4_isAsked 85 = .ok (.invokevirtual 153, 3) := by decide +kernel
theorem dX4_isAsked_88 : decode cX4_isAsked 88 = .ok (.ifCond .eq 36, 3) := by decide +kernel
theorem dX4_isAsked_91 : decode cX4_isAsked 91 = .ok (.aload_n 0, 1) := by decide +kernel
theorem dX4_isAsked_92 : decode cX4_isAsked 92 = .ok (.getfield 38, 3) := by decide +kernel
theorem dX4_isAsked_95 : decode cX4_isAsked 95 = .ok (.getfield 171, 3) := by decide +kernel
theorem dX4_isAsked_98 : decode cX4_isAsked 98 = .ok (.iload 5, 2) := by decide +kernel
theorem dX4_isAsked_100 : decode cX4_isAsked 100 = .ok (.iaload, 1) := by decide +kernel
theorem dX4_isAsked_101 : decode cX4_isAsked 101 = .ok (.iload_n 2, 1) := by decide +kernel
theorem dX4_isAsked_102 : decode cX4_isAsked 102 = .ok (.if_icmp .ne 22, 3) := by decide +kernel
theorem dX4_isAsked_105 : decode cX4_isAsked 105 = .ok (.iconst 1, 1) := by decide +kernel
theorem dX4_isAsked_106 : decode cX4_isAsked 106 = .ok (.istore_n 3, 1) := by decide +kernel
theorem dX4_isAsked_107 : decode cX4_isAsked 107 = .ok (.iload 4, 2) := by decide +kernel
theorem dX4_isAsked_109 : decode cX4_isAsked 109 = .ok (.ifCond .ne 8, 3) := by decide +kernel
theorem dX4_isAsked_112 : decode cX4_isAsked 112 = .ok (.iload 6, 2) := by decide +kernel
theorem dX4_isAsked_114 : decode cX4_isAsked 114 = .ok (.ifCond .eq 7, 3) := by decide +kernel
theorem dX4_isAsked_117 : decode cX4_isAsked 117 = .ok (.iconst 1, 1) := by decide +kernel
theorem dX4_isAsked_118 : decode cX4_isAsked 118 = .ok (.goto 4, 3) := by decide +kernel
theorem dX4_isAsked_121 : decode cX4_isAsked 121 = .ok (.iconst 0, 1) := by decide +kernel
theorem dX4_isAsked_122 : decode cX4_isAsked 122 = .ok (.istore 4, 2) := by decide +kernel
theorem dX4_isAsked_124 : decode cX4_isAsked 124 = .ok (.iinc 5 1, 3) := by decide +kernel
theorem dX4_isAsked_127 : decode cX4_isAsked 127 = .ok (.goto (-85), 3) := by decide +kernel
theorem dX4_isAsked_130 : decode cX4_isAsked 130 = .ok (.iload 4, 2) := by decide +kernel
theorem dX4_isAsked_132 : decode cX4_isAsked 132 = .ok (.ifCond .ne 7, 3) := by decide +kernel
theorem dX4_isAsked_135 : decode cX4_isAsked 135 = .ok (.iload_n 3, 1) := by decide +kernel
theorem dX4_isAsked_136 : decode cX4_isAsked 136 = .ok (.ifCond .ne 7, 3) := by decide +kernel
theorem dX4_isAsked_139 : decode cX4_isAsked 139 = .ok (.iconst 1, 1) := by decide +kernel
theorem dX4_isAsked_140 : decode cX4_isAsked 140 = .ok (.goto 4, 3) := by decide +kernel
theorem dX4_isAsked_143 : decode cX4_isAsked 143 = .ok (.iconst 0, 1) := by decide +kernel
theorem dX4_isAsked_144 : decode cX4_isAsked 144 = .ok (.ireturn, 1) := by decide +kernel
theorem dX4_isOverdue_0 : decode cX4_isOverdue 0 = .ok (.aload_n 0, 1) := by decide +kernel
theorem dX4_isOverdue_1 : decode cX4_isOverdue 1 = .ok (.iload_n 1, 1) := by decide +kernel
theorem dX4_isOverdue_2 : decode cX4_isOverdue 2 = .ok (.iload_n 2, 1) := by decide +kernel
theorem dX4_isOverdue_3 : decode cX4_isOverdue 3 = .ok (.iload_n 3, 1) := by decide +kernel
theorem dX4_isOverdue_4 : decode cX4_isOverdue 4 = .ok (.iconst 0, 1) := by decide +kernel
theorem dX4_isOverdue_5 : decode cX4_isOverdue 5 = .ok (.iconst 0, 1) := by decide +kernel
theorem dX4_isOverdue_6 : decode cX4_isOverdue 6 = .ok (.invokevirtual 174, 3) := by decide +kernel
theorem dX4_isOverdue_9 : decode cX4_isOverdue 9 = .ok (.iload_n 3, 1) := by decide +kernel
theorem dX4_isOverdue_10 : decode cX4_isOverdue 10 = .ok (.if_icmp .ne 7, 3) := by decide +kernel
theorem dX4_isOverdue_13 : decode cX4_isOverdue 13 = .ok (.iconst 1, 1) := by decide +kernel
theorem dX4_isOverdue_14 : decode cX4_isOverdue 14 = .ok (.goto 4, 3) := by decide +kernel
theorem dX4_isOverdue_17 : decode cX4_isOverdue 17 = .ok (.iconst 0, 1) := by decide +kernel
theorem dX4_isOverdue_18 : decode cX4_isOverdue 18 = .ok (.ireturn, 1) := by decide +kernel
theorem dX4_isAskedAndOverdue_0 : decode cX4_isAskedAndOverdue 0 = .ok (.aload_n 0, 1) := by decide +kernel
theorem dX4_isAskedAndOverdue_1 : decode cX4_isAskedAndOverdue 1 = .ok (.iload_n 1, 1) := by decide +kernel
theorem dX4_isAskedAndOverdue_2 : decode cX4_isAskedAndOverdue 2 = .ok (.iload_n 2, 1) := by decide +kernel
theorem dX4_isAskedAndOverdue_3 : decode cX4_isAskedAndOverdue 3 = .ok (.invokevirtual 178, 3) := by decide +kernel
theorem dX4_isAskedAndOverdue_6 : decode cX4_isAskedAndOverdue 6 = .ok (.ifCond .eq 17, 3) := by decide +kernel
theorem dX4_isAskedAndOverdue_9 : decode cX4_isAskedAndOverdue 9 = .ok (.aload_n 0, 1) := by decide +kernel
theorem dX4_isAskedAndOverdue_10 : decode cX4_isAskedAndOverdue 10 = .ok (.iload_n 1, 1) := by decide +kernel
theorem dX4_isAskedAndOverdue_11 : decode cX4_isAskedAndOverdue 11 = .ok (.iload_n 2, 1) := by decide +kernel
theorem dX4_isAskedAndOverdue_12 : decode cX4_isAskedAndOverdue 12 = .ok (.iload_n 3, 1) := by decide +kernel
theorem dX4_isAskedAndOverdue_13 : decode cX4_isAskedAndOverdue 13 = .ok (.invokevirtual 181, 3) := by decide +kernel
theorem dX4_isAskedAndOverdue_16 : decode cX4_isAskedAndOverdue 16 = .ok (.ifCond .eq 7, 3) := by decide +kernel
theorem dX4_isAskedAndOverdue_19 : decode cX4_isAskedAndOverdue 19 = .ok (.iconst 1, 1) := by decide +kernel
theorem dX4_isAskedAndOverdue_20 : decode cX4_isAskedAndOverdue 20 = .ok (.goto 4, 3) := by decide +kernel
theorem dX4_isAskedAndOverdue_23 : decode cX4_isAskedAndOverdue 23 = .ok (.iconst 0, 1) := by decide +kernel
theorem dX4_isAskedAndOverdue_24 : decode cX4_isAskedAndOverdue 24 = .ok (.ireturn, 1) := by decide +kernel
theorem dX4_firstOverdueDay_0 : decode cX4_firstOverdueDay 0 = .ok (.aload_n 0, 1) := by decide +kernel
theorem dX4_firstOverdueDay_1 : decode cX4_firstOverdueDay 1 = .ok (.iload_n 1, 1) := by decide +kernel
theorem dX4_firstOverdueDay_2 : decode cX4_firstOverdueDay 2 = .ok (.iload_n 2, 1) := by decide +kernel
theorem dX4_firstOverdueDay_3 : decode cX4_firstOverdueDay 3 = .ok (.iconst 0, 1) := by decide +kernel
theorem dX4_firstOverdueDay_4 : decode cX4_firstOverdueDay 4 = .ok (.iload_n 3, 1) := by decide +kernel
theorem dX4_firstOverdueDay_5 : decode cX4_firstOverdueDay 5 = .ok (.iload 4, 2) := by decide +kernel
theorem dX4_firstOverdueDay_7 : decode cX4_firstOverdueDay 7 = .ok (.invokevirtual 184, 3) := by decide +kernel
theorem dX4_firstOverdueDay_10 : decode cX4_firstOverdueDay 10 = .ok (.istore 6, 2) := by decide +kernel
theorem dX4_firstOverdueDay_12 : decode cX4_firstOverdueDay 12 = .ok (.iload 6, 2) := by decide +kernel
theorem dX4_firstOverdueDay_14 : decode cX4_firstOverdueDay 14 = .ok (.aload_n 0, 1) := by decide +kernel
theorem dX4_firstOverdueDay_15 : decode cX4_firstOverdueDay 15 = .ok (.iload_n 1, 1) := by decide +kernel
theorem dX4_firstOverdueDay_16 : decode cX4_firstOverdueDay 16 = .ok (.iload_n 2, 1) := by decide +kernel
theorem dX4_firstOverdueDay_17 : decode cX4_firstOverdueDay 17 = .ok (.iconst 1, 1) := by decide +kernel
theorem dX4_firstOverdueDay_18 : decode cX4_firstOverdueDay 18 = .ok (.iload_n 3, 1) := by decide +kernel
theorem dX4_firstOverdueDay_19 : decode cX4_firstOverdueDay 19 = .ok (.iload 5, 2) := by decide +kernel
theorem dX4_firstOverdueDay_21 : decode cX4_firstOverdueDay 21 = .ok (.invokevirtual 184, 3) := by decide +kernel
theorem dX4_firstOverdueDay_24 : decode cX4_firstOverdueDay 24 = .ok (.invokestatic 187, 3) := by decide +kernel
theorem dX4_firstOverdueDay_27 : decode cX4_firstOverdueDay 27 = .ok (.istore 6, 2) := by decide +kernel
theorem dX4_firstOverdueDay_29 : decode cX4_firstOverdueDay 29 = .ok (.iload 6, 2) := by decide +kernel
theorem dX4_firstOverdueDay_31 : decode cX4_firstOverdueDay 31 = .ok (.aload_n 0, 1) := by decide +kernel
theorem dX4_firstOverdueDay_32 : decode cX4_firstOverdueDay 32 = .ok (.iload_n 1, 1) := by decide +kernel
theorem dX4_firstOverdueDay_33 : decode cX4_firstOverdueDay 33 = .ok (.iload_n 2, 1) := by decide +kernel
theorem dX4_firstOverdueDay_34 : decode cX4_firstOverdueDay 34 = .ok (.iconst 2, 1) := by decide +kernel
theorem dX4_firstOverdueDay_35 : decode cX4_firstOverdueDay 35 = .ok (.iload_n 3, 1) := by decide +kernel
theorem dX4_firstOverdueDay_36 : decode cX4_firstOverdueDay 36 = .ok (.iconst 1, 1) := by decide +kernel
theorem dX4_firstOverdueDay_37 : decode cX4_firstOverdueDay 37 = .ok (.invokevirtual 184, 3) := by decide +kernel
theorem dX4_firstOverdueDay_40 : decode cX4_firstOverdueDay 40 = .ok (.invokestatic 187, 3) := by decide +kernel
theorem dX4_firstOverdueDay_43 : decode cX4_firstOverdueDay 43 = .ok (.ireturn, 1) := by decide +kernel
theorem dX4_firstDayAbove_0 : decode cX4_firstDayAbove 0 = .ok (.aload_n 0, 1) := by decide +kernel
theorem dX4_firstDayAbove_1 : decode cX4_firstDayAbove 1 = .ok (.getfield 34, 3) := by decide +kernel
theorem dX4_firstDayAbove_4 : decode cX4_firstDayAbove 4 = .ok (.getfield 101, 3) := by decide +kernel
theorem dX4_firstDayAbove_7 : decode cX4_firstDayAbove 7 = .ok (.iload_n 3, 1) := by decide +kernel
theorem dX4_firstDayAbove_8 : decode cX4_firstDayAbove 8 = .ok (.aaload, 1) := by decide +kernel
theorem dX4_firstDayAbove_9 : decode cX4_firstDayAbove 9 = .ok (.iload_n 2, 1) := by decide +kernel
theorem dX4_firstDayAbove_10 : decode cX4_firstDayAbove 10 = .ok (.iaload, 1) := by decide +kernel
theorem dX4_firstDayAbove_11 : decode cX4_firstDayAbove 11 = .ok (.ifCond .ne 6, 3) := by decide +kernel
theorem dX4_firstDayAbove_14 : decode cX4_firstDayAbove 14 = .ok (.ldc 192, 2) := by decide +kernel
theorem dX4_firstDayAbove_16 : decode cX4_firstDayAbove 16 = .ok (.ireturn, 1) := by decide +kernel
theorem dX4_firstDayAbove_17 : decode cX4_firstDayAbove 17 = .ok (.aload_n 0, 1) := by decide +kernel
theorem dX4_firstDayAbove_18 : decode cX4_firstDayAbove 18 = .ok (.getfield 16, 3) := by decide +kernel
theorem dX4_firstDayAbove_21 : decode cX4_firstDayAbove 21 = .ok (.iload_n 3, 1) := by decide +kernel
theorem dX4_firstDayAbove_22 : decode cX4_firstDayAbove 22 = .ok (.aaload, 1) := by decide +kernel
theorem dX4_firstDayAbove_23 : decode cX4_firstDayAbove 23 = .ok (.iload_n 1, 1) := by decide +kernel
theorem dX4_firstDayAbove_24 : decode cX4_firstDayAbove 24 = .ok (.bipush 16, 2) := by decide +kernel
theorem dX4_firstDayAbove_26 : decode cX4_firstDayAbove 26 = .ok (.imul, 1) := by decide +kernel
theorem dX4_firstDayAbove_27 : decode cX4_firstDayAbove 27 = .ok (.iload_n 2, 1) := by decide +kernel
theorem dX4_firstDayAbove_28 : decode cX4_firstDayAbove 28 = .ok (.iadd, 1) := by decide +kernel
theorem dX4_firstDayAbove_29 : decode cX4_firstDayAbove 29 = .ok (.iaload, 1) := by decide +kernel
theorem dX4_firstDayAbove_30 : decode cX4_firstDayAbove 30 = .ok (.aload_n 0, 1) := by decide +kernel
theorem dX4_firstDayAbove_31 : decode cX4_firstDayAbove 31 = .ok (.iload_n 1, 1) := by decide +kernel
theorem dX4_firstDayAbove_32 : decode cX4_firstDayAbove 32 = .ok (.iload_n 3, 1) := by decide +kernel
theorem dX4_firstDayAbove_33 : decode cX4_firstDayAbove 33 = .ok (.iload 4, 2) := by decide +kernel
theorem dX4_firstDayAbove_35 : decode cX4_firstDayAbove 35 = .ok (.invokevirtual 139, 3) := by decide +kernel
theorem dX4_firstDayAbove_38 : decode cX4_firstDayAbove 38 = .ok (.isub, 1) := by decide +kernel
theorem dX4_firstDayAbove_39 : decode cX4_firstDayAbove 39 = .ok (.istore 6, 2) := by decide +kernel
theorem dX4_firstDayAbove_41 : decode cX4_firstDayAbove 41 = .ok (.iload 6, 2) := by decide +kernel
theorem dX4_firstDayAbove_43 : decode cX4_firstDayAbove 43 = .ok (.ifCond .ge 6, 3) := by decide +kernel
theorem dX4_firstDayAbove_46 : decode cX4_firstDayAbove 46 = .ok (.iload 4, 2) := by decide +kernel
theorem dX4_firstDayAbove_48 : decode cX4_firstDayAbove 48 = .ok (.ireturn, 1) := by decide +kernel
theorem dX4_firstDayAbove_49 : decode cX4_firstDayAbove 49 = .ok (.iload 5, 2) := by decide +kernel
theorem dX4_firstDayAbove_51 : decode cX4_firstDayAbove 51 = .ok (.ifCond .ne 8, 3) := by decide +kernel
theorem dX4_firstDayAbove_54 : decode cX4_firstDayAbove 54 = .ok (.ldc 192, 2) := by decide +kernel
theorem dX4_firstDayAbove_56 : decode cX4_firstDayAbove 56 = .ok (.goto 13, 3) := by decide +kernel
theorem dX4_firstDayAbove_59 : decode cX4_firstDayAbove 59 = .ok (.iload 4, 2) := by decide +kernel
theorem dX4_firstDayAbove_61 : decode cX4_firstDayAbove 61 = .ok (.iload 6, 2) := by decide +kernel
theorem dX4_firstDayAbove_63 : decode cX4_firstDayAbove 63 = .ok (.iload 5, 2) := by decide +kernel
theorem dX4_firstDayAbove_65 : decode cX4_firstDayAbove 65 = .ok (.idiv, 1) := by decide +kernel
theorem dX4_firstDayAbove_66 : decode cX4_firstDayAbove 66 = .ok (.iadd, 1) := by decide +kernel
theorem dX4_firstDayAbove_67 : decode cX4_firstDayAbove 67 = .ok (.iconst 1, 1) := by decide +kernel
theorem dX4_firstDayAbove_68 : decode cX4_firstDayAbove 68 = .ok (.iadd, 1) := by decide +kernel
theorem dX4_firstDayAbove_69 : decode cX4_firstDayAbove 69 = .ok (.ireturn, 1) := by decide +kernel
theorem dX5_init_0 : decode cX5_init 0 = .ok (.aload_n 0, 1) := by decide +kernel
theorem dX5_init_1 : decode cX5_init 1 = .ok (.invokespecial 3, 3) := by decide +kernel
theorem dX5_init_4 : decode cX5_init 4 = .ok (.aload_n 0, 1) := by decide +kernel
theorem dX5_init_5 : decode cX5_init 5 = .ok (.bipush 16, 2) := by decide +kernel
theorem dX5_init_7 : decode cX5_init 7 = .ok (.newarray .int, 2) := by decide +kernel
theorem dX5_init_9 : decode cX5_init 9 = .ok (.putfield 9, 3) := by decide +kernel
theorem dX5_init_12 : decode cX5_init 12 = .ok (.aload_n 0, 1) := by decide +kernel
theorem dX5_init_13 : decode cX5_init 13 = .ok (.iconst 3, 1) := by decide +kernel
theorem dX5_init_14 : decode cX5_init 14 = .ok (.bipush 16, 2) := by decide +kernel
theorem dX5_init_16 : decode cX5_init 16 = .ok (.multianewarray 15 2, 4) := by decide +kernel
theorem dX5_init_20 : decode cX5_init 20 = .ok (.putfield 17, 3) := by decide +kernel
theorem dX5_init_23 : decode cX5_init 23 = .ok (.aload_n 0, 1) := by decide +kernel
theorem dX5_init_24 : decode cX5_init 24 = .ok (.bipush 16, 2) := by decide +kernel
theorem dX5_init_26 : decode cX5_init 26 = .ok (.newarray .int, 2) := by decide +kernel
theorem dX5_init_28 : decode cX5_init 28 = .ok (.putfield 20, 3) := by decide +kernel
theorem dX5_init_31 : decode cX5_init 31 = .ok (.aload_n 0, 1) := by decide +kernel
theorem dX5_init_32 : decode cX5_init 32 = .ok (.getfield 9, 3) := by decide +kernel
theorem dX5_init_35 : decode cX5_init 35 = .ok (.iconst (-1), 1) := by decide +kernel
theorem dX5_init_36 : decode cX5_init 36 = .ok (.invokestatic 23, 3) := by decide +kernel
theorem dX5_init_39 : decode cX5_init 39 = .ok (.return_, 1) := by decide +kernel
theorem dX5_has_0 : decode cX5_has 0 = .ok (.iload_n 1, 1) := by decide +kernel
theorem dX5_has_1 : decode cX5_has 1 = .ok (.bipush 16, 2) := by decide +kernel
theorem dX5_has_3 : decode cX5_has 3 = .ok (.invokestatic 29, 3) := by decide +kernel
theorem dX5_has_6 : decode cX5_has 6 = .ok (.ifCond .eq 17, 3) := by decide +kernel
theorem dX5_has_9 : decode cX5_has 9 = .ok (.aload_n 0, 1) := by decide +kernel
theorem dX5_has_10 : decode cX5_has 10 = .ok (.getfield 9, 3) := by decide +kernel
theorem dX5_has_13 : decode cX5_has 13 = .ok (.iload_n 1, 1) := by decide +kernel
theorem dX5_has_14 : decode cX5_has 14 = .ok (.iaload, 1) := by decide +kernel
theorem dX5_has_15 : decode cX5_has 15 = .ok (.iconst (-1), 1) := by decide +kernel
theorem dX5_has_16 : decode cX5_has 16 = .ok (.if_icmp .eq 7, 3) := by decide +kernel
theorem dX5_has_19 : decode cX5_has 19 = .ok (.iconst 1, 1) := by decide +kernel
theorem dX5_has_20 : decode cX5_has 20 = .ok (.goto 4, 3) := by decide +kernel
theorem dX5_has_23 : decode cX5_has 23 = .ok (.iconst 0, 1) := by decide +kernel
theorem dX5_has_24 : decode cX5_has 24 = .ok (.ireturn, 1) := by decide +kernel
theorem dX5_set_0 : decode cX5_set 0 = .ok (.aload_n 0, 1) := by decide +kernel
theorem dX5_set_1 : decode cX5_set 1 = .ok (.getfield 9, 3) := by decide +kernel
theorem dX5_set_4 : decode cX5_set 4 = .ok (.iload_n 1, 1) := by decide +kernel
theorem dX5_set_5 : decode cX5_set 5 = .ok (.iload_n 2, 1) := by decide +kernel
theorem dX5_set_6 : decode cX5_set 6 = .ok (.iastore, 1) := by decide +kernel
theorem dX5_set_7 : decode cX5_set 7 = .ok (.aload_n 0, 1) := by decide +kernel
theorem dX5_set_8 : decode cX5_set 8 = .ok (.getfield 17, 3) := by decide +kernel
theorem dX5_set_11 : decode cX5_set 11 = .ok (.iconst 0, 1) := by decide +kernel
theorem dX5_set_12 : decode cX5_set 12 = .ok (.aaload, 1) := by decide +kernel
theorem dX5_set_13 : decode cX5_set 13 = .ok (.iload_n 1, 1) := by decide +kernel
theorem dX5_set_14 : decode cX5_set 14 = .ok (.iload_n 3, 1) := by decide +kernel
theorem dX5_set_15 : decode cX5_set 15 = .ok (.iastore, 1) := by decide +kernel
theorem dX5_set_16 : decode cX5_set 16 = .ok (.aload_n 0, 1) := by decide +kernel
theorem dX5_set_17 : decode cX5_set 17 = .ok (.getfield 17, 3) := by decide +kernel
theorem dX5_set_20 : decode cX5_set 20 = .ok (.iconst 1, 1) := by decide +kernel
theorem dX5_set_21 : decode cX5_set 21 = .ok (.aaload, 1) := by decide +kernel
theorem dX5_set_22 : decode cX5_set 22 = .ok (.iload_n 1, 1) := by decide +kernel
theorem dX5_set_23 : decode cX5_set 23 = .ok (.iload 4, 2) := by decide +kernel
theorem dX5_set_25 : decode cX5_set 25 = .ok (.iastore, 1) := by decide +kernel
theorem dX5_set_26 : decode cX5_set 26 = .ok (.aload_n 0, 1) := by decide +kernel
theorem dX5_set_27 : decode cX5_set 27 = .ok (.getfield 17, 3) := by decide +kernel
theorem dX5_set_30 : decode cX5_set 30 = .ok (.iconst 2, 1) := by decide +kernel
theorem dX5_set_31 : decode cX5_set 31 = .ok (.aaload, 1) := by decide +kernel
theorem dX5_set_32 : decode cX5_set 32 = .ok (.iload_n 1, 1) := by decide +kernel
theorem dX5_set_33 : decode cX5_set 33 = .ok (.iload 5, 2) := by decide +kernel
theorem dX5_set_35 : decode cX5_set 35 = .ok (.iastore, 1) := by decide +kernel
theorem dX5_set_36 : decode cX5_set 36 = .ok (.aload_n 0, 1) := by decide +kernel
theorem dX5_set_37 : decode cX5_set 37 = .ok (.getfield 20, 3) := by decide +kernel
theorem dX5_set_40 : decode cX5_set 40 = .ok (.iload_n 1, 1) := by decide +kernel
theorem dX5_set_41 : decode cX5_set 41 = .ok (.iload 6, 2) := by decide +kernel
theorem dX5_set_43 : decode cX5_set 43 = .ok (.iastore, 1) := by decide +kernel
theorem dX5_set_44 : decode cX5_set 44 = .ok (.return_, 1) := by decide +kernel
theorem dX5_graceOf_0 : decode cX5_graceOf 0 = .ok (.aload_n 0, 1) := by decide +kernel
theorem dX5_graceOf_1 : decode cX5_graceOf 1 = .ok (.getfield 17, 3) := by decide +kernel
theorem dX5_graceOf_4 : decode cX5_graceOf 4 = .ok (.iload_n 2, 1) := by decide +kernel
theorem dX5_graceOf_5 : decode cX5_graceOf 5 = .ok (.aaload, 1) := by decide +kernel
theorem dX5_graceOf_6 : decode cX5_graceOf 6 = .ok (.iload_n 1, 1) := by decide +kernel
theorem dX5_graceOf_7 : decode cX5_graceOf 7 = .ok (.iaload, 1) := by decide +kernel
theorem dX5_graceOf_8 : decode cX5_graceOf 8 = .ok (.aload_n 0, 1) := by decide +kernel
theorem dX5_graceOf_9 : decode cX5_graceOf 9 = .ok (.getfield 20, 3) := by decide +kernel
theorem dX5_graceOf_12 : decode cX5_graceOf 12 = .ok (.iload_n 1, 1) := by decide +kernel
theorem dX5_graceOf_13 : decode cX5_graceOf 13 = .ok (.iaload, 1) := by decide +kernel
theorem dX5_graceOf_14 : decode cX5_graceOf 14 = .ok (.imul, 1) := by decide +kernel
theorem dX5_graceOf_15 : decode cX5_graceOf 15 = .ok (.sipush 1000, 3) := by decide +kernel
theorem dX5_graceOf_18 : decode cX5_graceOf 18 = .ok (.idiv, 1) := by decide +kernel
theorem dX5_graceOf_19 : decode cX5_graceOf 19 = .ok (.ireturn, 1) := by decide +kernel
theorem dX6_init_0 : decode cX6_init 0 = .ok (.aload_n 0, 1) := by decide +kernel
theorem dX6_init_1 : decode cX6_init 1 = .ok (.invokespecial 3, 3) := by decide +kernel
theorem dX6_init_4 : decode cX6_init 4 = .ok (.aload_n 0, 1) := by decide +kernel
theorem dX6_init_5 : decode cX6_init 5 = .ok (.bipush 40, 2) := by decide +kernel
theorem dX6_init_7 : decode cX6_init 7 = .ok (.newarray .int, 2) := by decide +kernel
theorem dX6_init_9 : decode cX6_init 9 = .ok (.putfield 9, 3) := by decide +kernel
theorem dX6_init_12 : decode cX6_init 12 = .ok (.aload_n 0, 1) := by decide +kernel
theorem dX6_init_13 : decode cX6_init 13 = .ok (.iconst 2, 1) := by decide +kernel
theorem dX6_init_14 : decode cX6_init 14 = .ok (.bipush 40, 2) := by decide +kernel
theorem dX6_init_16 : decode cX6_init 16 = .ok (.multianewarray 15 2, 4) := by decide +kernel
theorem dX6_init_20 : decode cX6_init 20 = .ok (.putfield 17, 3) := by decide +kernel
theorem dX6_init_23 : decode cX6_init 23 = .ok (.aload_n 0, 1) := by decide +kernel
theorem dX6_init_24 : decode cX6_init 24 = .ok (.bipush 40, 2) := by decide +kernel
theorem dX6_init_26 : decode cX6_init 26 = .ok (.newarray .int, 2) := by decide +kernel
theorem dX6_init_28 : decode cX6_init 28 = .ok (.putfield 20, 3) := by decide +kernel
theorem dX6_init_31 : decode cX6_init 31 = .ok (.aload_n 0, 1) := by decide +kernel
theorem dX6_init_32 : decode cX6_init 32 = .ok (.aload_n 1, 1) := by decide +kernel
theorem dX6_init_33 : decode cX6_init 33 = .ok (.putfield 23, 3) := by decide +kernel
theorem dX6_init_36 : decode cX6_init 36 = .ok (.aload_n 0, 1) := by decide +kernel
theorem dX6_init_37 : decode cX6_init 37 = .ok (.getfield 9, 3) := by decide +kernel
theorem dX6_init_40 : decode cX6_init 40 = .ok (.iconst (-1), 1) := by decide +kernel
theorem dX6_init_41 : decode cX6_init 41 = .ok (.invokestatic 27, 3) := by decide +kernel
theorem dX6_init_44 : decode cX6_init 44 = .ok (.return_, 1) := by decide +kernel
theorem dX6_has_0 : decode cX6_has 0 = .ok (.iload_n 1, 1) := by decide +kernel
theorem dX6_has_1 : decode cX6_has 1 = .ok (.bipush 40, 2) := by decide +kernel
theorem dX6_has_3 : decode cX6_has 3 = .ok (.invokestatic 33, 3) := by decide +kernel
theorem dX6_has_6 : decode cX6_has 6 = .ok (.ifCond .eq 17, 3) := by decide +kernel
theorem dX6_has_9 : decode cX6_has 9 = .ok (.aload_n 0, 1) := by decide +kernel
theorem dX6_has_10 : decode cX6_has 10 = .ok (.getfield 9, 3) := by decide +kernel
theorem dX6_has_13 : decode cX6_has 13 = .ok (.iload_n 1, 1) := by decide +kernel
theorem dX6_has_14 : decode cX6_has 14 = .ok (.iaload, 1) := by decide +kernel
theorem dX6_has_15 : decode cX6_has 15 = .ok (.iconst (-1), 1) := by decide +kernel
theorem dX6_has_16 : decode cX6_has 16 = .ok (.if_icmp .eq 7, 3) := by decide +kernel
theorem dX6_has_19 : decode cX6_has 19 = .ok (.iconst 1, 1) := by decide +kernel
theorem dX6_has_20 : decode cX6_has 20 = .ok (.goto 4, 3) := by decide +kernel
theorem dX6_has_23 : decode cX6_has 23 = .ok (.iconst 0, 1) := by decide +kernel
theorem dX6_has_24 : decode cX6_has 24 = .ok (.ireturn, 1) := by decide +kernel
theorem dX6_isMachine_0 : decode cX6_isMachine 0 = .ok (.aload_n 0, 1) := by decide +kernel
theorem dX6_isMachine_1 : decode cX6_isMachine 1 = .ok (.iload_n 1, 1) := by decide +kernel
theorem dX6_isMachine_2 : decode cX6_isMachine 2 = .ok (.invokevirtual 37, 3) := by decide +kernel
theorem dX6_isMachine_5 : decode cX6_isMachine 5 = .ok (.ifCond .eq 23, 3) := by decide +kernel
theorem dX6_isMachine_8 : decode cX6_isMachine 8 = .ok (.aload_n 0, 1) := by decide +kernel
theorem dX6_isMachine_9 : decode cX6_isMachine 9 = .ok (.getfield 23, 3) := by decide +kernel
theorem dX6_isMachine_12 : decode cX6_isMachine 12 = .ok (.aload_n 0, 1) := by decide +kernel
theorem dX6_isMachine_13 : decode cX6_isMachine 13 = .ok (.getfield 9, 3) := by decide +kernel
theorem dX6_isMachine_16 : decode cX6_isMachine 16 = .ok (.iload_n 1, 1) := by decide +kernel
theorem dX6_isMachine_17 : decode cX6_isMachine 17 = .ok (.iaload, 1) := by decide +kernel
theorem dX6_isMachine_18 : decode cX6_isMachine 18 = .ok (.invokevirtual 41, 3) := by decide +kernel
theorem dX6_isMachine_21 : decode cX6_isMachine 21 = .ok (.ifCond .ne 7, 3) := by decide +kernel
theorem dX6_isMachine_24 : decode cX6_isMachine 24 = .ok (.iconst 1, 1) := by decide +kernel
theorem dX6_isMachine_25 : decode cX6_isMachine 25 = .ok (.goto 4, 3) := by decide +kernel
theorem dX6_isMachine_28 : decode cX6_isMachine 28 = .ok (.iconst 0, 1) := by decide +kernel
theorem dX6_isMachine_29 : decode cX6_isMachine 29 = .ok (.ireturn, 1) := by decide +kernel
theorem dX6_add_0 : decode cX6_add 0 = .ok (.aload_n 0, 1) := by decide +kernel
theorem dX6_add_1 : decode cX6_add 1 = .ok (.getfield 9, 3) := by decide +kernel
theorem dX6_add_4 : decode cX6_add 4 = .ok (.iload_n 1, 1) := by decide +kernel
theorem dX6_add_5 : decode cX6_add 5 = .ok (.iload_n 2, 1) := by decide +kernel
theorem dX6_add_6 : decode cX6_add 6 = .ok (.iastore, 1) := by decide +kernel
theorem dX6_add_7 : decode cX6_add 7 = .ok (.aload_n 0, 1) := by decide +kernel
theorem dX6_add_8 : decode cX6_add 8 = .ok (.getfield 17, 3) := by decide +kernel
theorem dX6_add_11 : decode cX6_add 11 = .ok (.iconst 0, 1) := by decide +kernel
theorem dX6_add_12 : decode cX6_add 12 = .ok (.aaload, 1) := by decide +kernel
theorem dX6_add_13 : decode cX6_add 13 = .ok (.iload_n 1, 1) := by decide +kernel
theorem dX6_add_14 : decode cX6_add 14 = .ok (.iload_n 3, 1) := by decide +kernel
theorem dX6_add_15 : decode cX6_add 15 = .ok (.iastore, 1) := by decide +kernel
theorem dX6_add_16 : decode cX6_add 16 = .ok (.aload_n 0, 1) := by decide +kernel
theorem dX6_add_17 : decode cX6_add 17 = .ok (.getfield 17, 3) := by decide +kernel
theorem dX6_add_20 : decode cX6_add 20 = .ok (.iconst 1, 1) := by decide +kernel
theorem dX6_add_21 : decode cX6_add 21 = .ok (.aaload, 1) := by decide +kernel
theorem dX6_add_22 : decode cX6_add 22 = .ok (.iload_n 1, 1) := by decide +kernel
theorem dX6_add_23 : decode cX6_add 23 = .ok (.iload 4, 2) := by decide +kernel
theorem dX6_add_25 : decode cX6_add 25 = .ok (.iastore, 1) := by decide +kernel
theorem dX6_add_26 : decode cX6_add 26 = .ok (.aload_n 0, 1) := by decide +kernel
theorem dX6_add_27 : decode cX6_add 27 = .ok (.getfield 20, 3) := by decide +kernel
theorem dX6_add_30 : decode cX6_add 30 = .ok (.iload_n 1, 1) := by decide +kernel
theorem dX6_add_31 : decode cX6_add 31 = .ok (.iload 5, 2) := by decide +kernel
theorem dX6_add_33 : decode cX6_add 33 = .ok (.iastore, 1) := by decide +kernel
theorem dX6_add_34 : decode cX6_add 34 = .ok (.aload_n 0, 1) := by decide +kernel
theorem dX6_add_35 : decode cX6_add 35 = .ok (.dup, 1) := by decide +kernel
theorem dX6_add_36 : decode cX6_add 36 = .ok (.getfield 46, 3) := by decide +kernel
theorem dX6_add_39 : decode cX6_add 39 = .ok (.iconst 1, 1) := by decide +kernel
theorem dX6_add_40 : decode cX6_add 40 = .ok (.iadd, 1) := by decide +kernel
theorem dX6_add_41 : decode cX6_add 41 = .ok (.putfield 46, 3) := by decide +kernel
theorem dX6_add_44 : decode cX6_add 44 = .ok (.return_, 1) := by decide +kernel
theorem dX7_init_0 : decode cX7_init 0 = .ok (.aload_n 0, 1) := by decide +kernel
theorem dX7_init_1 : decode cX7_init 1 = .ok (.invokespecial 3, 3) := by decide +kernel
theorem dX7_init_4 : decode cX7_init 4 = .ok (.aload_n 0, 1) := by decide +kernel
theorem dX7_init_5 : decode cX7_init 5 = .ok (.bipush 40, 2) := by decide +kernel
theorem dX7_init_7 : decode cX7_init 7 = .ok (.newarray .int, 2) := by decide +kernel
theorem dX7_init_9 : decode cX7_init 9 = .ok (.putfield 9, 3) := by decide +kernel
theorem dX7_init_12 : decode cX7_init 12 = .ok (.aload_n 0, 1) := by decide +kernel
theorem dX7_init_13 : decode cX7_init 13 = .ok (.bipush 40, 2) := by decide +kernel
theorem dX7_init_15 : decode cX7_init 15 = .ok (.newarray .int, 2) := by decide +kernel
theorem dX7_init_17 : decode cX7_init 17 = .ok (.putfield 15, 3) := by decide +kernel
theorem dX7_init_20 : decode cX7_init 20 = .ok (.aload_n 0, 1) := by decide +kernel
theorem dX7_init_21 : decode cX7_init 21 = .ok (.sipush 160, 3) := by decide +kernel
theorem dX7_init_24 : decode cX7_init 24 = .ok (.newarray .int, 2) := by decide +kernel
theorem dX7_init_26 : decode cX7_init 26 = .ok (.putfield 18, 3) := by decide +kernel
theorem dX7_init_29 : decode cX7_init 29 = .ok (.aload_n 0, 1) := by decide +kernel
theorem dX7_init_30 : decode cX7_init 30 = .ok (.aload_n 1, 1) := by decide +kernel
theorem dX7_init_31 : decode cX7_init 31 = .ok (.putfield 21, 3) := by decide +kernel
theorem dX7_init_34 : decode cX7_init 34 = .ok (.aload_n 0, 1) := by decide +kernel
theorem dX7_init_35 : decode cX7_init 35 = .ok (.aload_n 2, 1) := by decide +kernel
theorem dX7_init_36 : decode cX7_init 36 = .ok (.putfield 25, 3) := by decide +kernel
theorem dX7_init_39 : decode cX7_init 39 = .ok (.return_, 1) := by decide +kernel
theorem dX7_clear_0 : decode cX7_clear 0 = .ok (.aload_n 0, 1) := by decide +kernel
theorem dX7_clear_1 : decode cX7_clear 1 = .ok (.getfield 9, 3) := by decide +kernel
theorem dX7_clear_4 : decode cX7_clear 4 = .ok (.iconst (-1), 1) := by decide +kernel
theorem dX7_clear_5 : decode cX7_clear 5 = .ok (.invokestatic 29, 3) := by decide +kernel
theorem dX7_clear_8 : decode cX7_clear 8 = .ok (.aload_n 0, 1) := by decide +kernel
theorem dX7_clear_9 : decode cX7_clear 9 = .ok (.getfield 15, 3) := by decide +kernel
theorem dX7_clear_12 : decode cX7_clear 12 = .ok (.iconst (-1), 1) := by decide +kernel
theorem dX7_clear_13 : decode cX7_clear 13 = .ok (.invokestatic 29, 3) := by decide +kernel
theorem dX7_clear_16 : decode cX7_clear 16 = .ok (.aload_n 0, 1) := by decide +kernel
theorem dX7_clear_17 : decode cX7_clear 17 = .ok (.getfield 18, 3) := by decide +kernel
theorem dX7_clear_20 : decode cX7_clear 20 = .ok (.iconst (-1), 1) := by decide +kernel
theorem dX7_clear_21 : decode cX7_clear 21 = .ok (.invokestatic 29, 3) := by decide +kernel
theorem dX7_clear_24 : decode cX7_clear 24 = .ok (.return_, 1) := by decide +kernel
theorem dX7_hang_0 : decode cX7_hang 0 = .ok (.aload_n 1, 1) := by decide +kernel
theorem dX7_hang_1 : decode cX7_hang 1 = .ok (.getfield 35, 3) := by decide +kernel
theorem dX7_hang_4 : decode cX7_hang 4 = .ok (.istore_n 2, 1) := by decide +kernel
theorem dX7_hang_5 : decode cX7_hang 5 = .ok (.aload_n 1, 1) := by decide +kernel
theorem dX7_hang_6 : decode cX7_hang 6 = .ok (.getfield 41, 3) := by decide +kernel
theorem dX7_hang_9 : decode cX7_hang 9 = .ok (.istore_n 3, 1) := by decide +kernel
theorem dX7_hang_10 : decode cX7_hang 10 = .ok (.aload_n 1, 1) := by decide +kernel
theorem dX7_hang_11 : decode cX7_hang 11 = .ok (.getfield 44, 3) := by decide +kernel
theorem dX7_hang_14 : decode cX7_hang 14 = .ok (.istore 4, 2) := by decide +kernel
theorem dX7_hang_16 : decode cX7_hang 16 = .ok (.aload_n 0, 1) := by decide +kernel
theorem dX7_hang_17 : decode cX7_hang 17 = .ok (.getfield 9, 3) := by decide +kernel
theorem dX7_hang_20 : decode cX7_hang 20 = .ok (.iload_n 2, 1) := by decide +kernel
theorem dX7_hang_21 : decode cX7_hang 21 = .ok (.iaload, 1) := by decide +kernel
theorem dX7_hang_22 : decode cX7_hang 22 = .ok (.iconst (-1), 1) := by decide +kernel
theorem dX7_hang_23 : decode cX7_hang 23 = .ok (.if_icmp .ne 56, 3) := by decide +kernel
theorem dX7_hang_26 : decode cX7_hang 26 = .ok (.aload_n 0, 1) := by decide +kernel
theorem dX7_hang_27 : decode cX7_hang 27 = .ok (.getfield 18, 3) := by decide +kernel
theorem dX7_hang_30 : decode cX7_hang 30 = .ok (.iload_n 3, 1) := by decide +kernel
theorem dX7_hang_31 : decode cX7_hang 31 = .ok (.iconst 4, 1) := by decide +kernel
theorem dX7_hang_32 : decode cX7_hang 32 = .ok (.imul, 1) := by decide +kernel
theorem dX7_hang_33 : decode cX7_hang 33 = .ok (.iload 4, 2) := by decide +kernel
theorem dX7_hang_35 : decode cX7_hang 35 = .ok (.iadd, 1) := by decide +kernel
theorem dX7_hang_36 : decode cX7_hang 36 = .ok (.iaload, 1) := by decide +kernel
theorem dX7_hang_37 : decode cX7_hang 37 = .ok (.iconst (-1), 1) := by decide +kernel
theorem dX7_hang_38 : decode cX7_hang 38 = .ok (.if_icmp .ne 41, 3) := by decide +kernel
theorem dX7_hang_41 : decode cX7_hang 41 = .ok (.aload_n 0, 1) := by decide +kernel
theorem dX7_hang_42 : decode cX7_hang 42 = .ok (.iload_n 2, 1) := by decide +kernel
theorem dX7_hang_43 : decode cX7_hang 43 = .ok (.iload_n 3, 1) := by decide +kernel
theorem dX7_hang_44 : decode cX7_hang 44 = .ok (.iload 4, 2) := by decide +kernel
theorem dX7_hang_46 : decode cX7_hang 46 = .ok (.invokevirtual 46, 3) := by decide +kernel
theorem dX7_hang_49 : decode cX7_hang 49 = .ok (.ifCond .eq 30, 3) := by decide +kernel
theorem dX7_hang_52 : decode cX7_hang 52 = .ok (.aload_n 0, 1) := by decide +kernel
theorem dX7_hang_53 : decode cX7_hang 53 = .ok (.iload_n 2, 1) := by decide +kernel
theorem dX7_hang_54 : decode cX7_hang 54 = .ok (.iload_n 3, 1) := by decide +kernel
theorem dX7_hang_55 : decode cX7_hang 55 = .ok (.invokevirtual 50, 3) := by decide +kernel
theorem dX7_hang_58 : decode cX7_hang 58 = .ok (.iconst (-1), 1) := by decide +kernel
theorem dX7_hang_59 : decode cX7_hang 59 = .ok (.if_icmp .ne 20, 3) := by decide +kernel
theorem dX7_hang_62 : decode cX7_hang 62 = .ok (.aload_n 0, 1) := by decide +kernel
theorem dX7_hang_63 : decode cX7_hang 63 = .ok (.iload_n 3, 1) := by decide +kernel
theorem dX7_hang_64 : decode cX7_hang 64 = .ok (.invokevirtual 54, 3) := by decide +kernel
theorem dX7_hang_67 : decode cX7_hang 67 = .ok (.iconst 1, 1) := by decide +kernel
theorem dX7_hang_68 : decode cX7_hang 68 = .ok (.iadd, 1) := by decide +kernel
theorem dX7_hang_69 : decode cX7_hang 69 = .ok (.aload_n 0, 1) := by decide +kernel
theorem dX7_hang_70 : decode cX7_hang 70 = .ok (.iload_n 2, 1) := by decide +kernel
theorem dX7_hang_71 : decode cX7_hang 71 = .ok (.invokevirtual 58, 3) := by decide +kernel
theorem dX7_hang_74 : decode cX7_hang 74 = .ok (.iadd, 1) := by decide +kernel
theorem dX7_hang_75 : decode cX7_hang 75 = .ok (.iconst 4, 1) := by decide +kernel
theorem dX7_hang_76 : decode cX7_hang 76 = .ok (.if_icmp .le 5, 3) := by decide +kernel
theorem dX7_hang_79 : decode cX7_hang 79 = .ok (.iconst 0, 1) := by decide +kernel
theorem dX7_hang_80 : decode cX7_hang 80 = .ok (.ireturn, 1) := by decide +kernel
theorem dX7_hang_81 : decode cX7_hang 81 = .ok (.aload_n 0, 1) := by decide +kernel
theorem dX7_hang_82 : decode cX7_hang 82 = .ok (.getfield 9, 3) := by decide +kernel
theorem dX7_hang_85 : decode cX7_hang 85 = .ok (.iload_n 2, 1) := by decide +kernel
theorem dX7_hang_86 : decode cX7_hang 86 = .ok (.iload_n 3, 1) := by decide +kernel
theorem dX7_hang_87 : decode cX7_hang 87 = .ok (.iastore, 1) := by decide +kernel
theorem dX7_hang_88 : decode cX7_hang 88 = .ok (.aload_n 0, 1) := by decide +kernel
theorem dX7_hang_89 : decode cX7_hang 89 = .ok (.getfield 15, 3) := by decide +kernel
theorem dX7_hang_92 : decode cX7_hang 92 = .ok (.iload_n 2, 1) := by decide +kernel
theorem dX7_hang_93 : decode cX7_hang 93 = .ok (.iload 4, 2) := by decide +kernel
theorem dX7_hang_95 : decode cX7_hang 95 = .ok (.iastore, 1) := by decide +kernel
theorem dX7_hang_96 : decode cX7_hang 96 = .ok (.aload_n 0, 1) := by decide +kernel
theorem dX7_hang_97 : decode cX7_hang 97 = .ok (.getfield 18, 3) := by decide +kernel
theorem dX7_hang_100 : decode cX7_hang 100 = .ok (.iload_n 3, 1) := by decide +kernel
theorem dX7_hang_101 : decode cX7_hang 101 = .ok (.iconst 4, 1) := by decide +kernel
theorem dX7_hang_102 : decode cX7_hang 102 = .ok (.imul, 1) := by decide +kernel
theorem dX7_hang_103 : decode cX7_hang 103 = .ok (.iload 4, 2) := by decide +kernel
theorem dX7_hang_105 : decode cX7_hang 105 = .ok (.iadd, 1) := by decide +kernel
theorem dX7_hang_106 : decode cX7_hang 106 = .ok (.iload_n 2, 1) := by decide +kernel
theorem dX7_hang_107 : decode cX7_hang 107 = .ok (.iastore, 1) := by decide +kernel
theorem dX7_hang_108 : decode cX7_hang 108 = .ok (.iconst 1, 1) := by decide +kernel
theorem dX7_hang_109 : decode cX7_hang 109 = .ok (.ireturn, 1) := by decide +kernel
theorem dX7_unhang_0 : decode cX7_unhang 0 = .ok (.aload_n 0, 1) := by decide +kernel
theorem dX7_unhang_1 : decode cX7_unhang 1 = .ok (.getfield 9, 3) := by decide +kernel
theorem dX7_unhang_4 : decode cX7_unhang 4 = .ok (.iload_n 1, 1) := by decide +kernel
theorem dX7_unhang_5 : decode cX7_unhang 5 = .ok (.iaload, 1) := by decide +kernel
theorem dX7_unhang_6 : decode cX7_unhang 6 = .ok (.iconst (-1), 1) := by decide +kernel
theorem dX7_unhang_7 : decode cX7_unhang 7 = .ok (.if_icmp .ne 5, 3) := by decide +kernel
theorem dX7_unhang_10 : decode cX7_unhang 10 = .ok (.iconst 0, 1) := by decide +kernel
theorem dX7_unhang_11 : decode cX7_unhang 11 = .ok (.ireturn, 1) := by decide +kernel
theorem dX7_unhang_12 : decode cX7_unhang 12 = .ok (.aload_n 0, 1) := by decide +kernel
theorem dX7_unhang_13 : decode cX7_unhang 13 = .ok (.getfield 18, 3) := by decide +kernel
theorem dX7_unhang_16 : decode cX7_unhang 16 = .ok (.aload_n 0, 1) := by decide +kernel
theorem dX7_unhang_17 : decode cX7_unhang 17 = .ok (.getfield 9, 3) := by decide +kernel
theorem dX7_unhang_20 : decode cX7_unhang 20 = .ok (.iload_n 1, 1) := by decide +kernel
theorem dX7_unhang_21 : decode cX7_unhang 21 = .ok (.iaload, 1) := by decide +kernel
theorem dX7_unhang_22 : decode cX7_unhang 22 = .ok (.iconst 4, 1) := by decide +kernel
theorem dX7_unhang_23 : decode cX7_unhang 23 = .ok (.imul, 1) := by decide +kernel
theorem dX7_unhang_24 : decode cX7_unhang 24 = .ok (.aload_n 0, 1) := by decide +kernel
theorem dX7_unhang_25 : decode cX7_unhang 25 = .ok (.getfield 15, 3) := by decide +kernel
theorem dX7_unhang_28 : decode cX7_unhang 28 = .ok (.iload_n 1, 1) := by decide +kernel
theorem dX7_unhang_29 : decode cX7_unhang 29 = .ok (.iaload, 1) := by decide +kernel
theorem dX7_unhang_30 : decode cX7_unhang 30 = .ok (.iadd, 1) := by decide +kernel
theorem dX7_unhang_31 : decode cX7_unhang 31 = .ok (.iconst (-1), 1) := by decide +kernel
theorem dX7_unhang_32 : decode cX7_unhang 32 = .ok (.iastore, 1) := by decide +kernel
theorem dX7_unhang_33 : decode cX7_unhang 33 = .ok (.aload_n 0, 1) := by decide +kernel
theorem dX7_unhang_34 : decode cX7_unhang 34 = .ok (.getfield 9, 3) := by decide +kernel
theorem dX7_unhang_37 : decode cX7_unhang 37 = .ok (.iload_n 1, 1) := by decide +kernel
theorem dX7_unhang_38 : decode cX7_unhang 38 = .ok (.iconst (-1), 1) := by decide +kernel
theorem dX7_unhang_39 : decode cX7_unhang 39 = .ok (.iastore, 1) := by decide +kernel
theorem dX7_unhang_40 : decode cX7_unhang 40 = .ok (.aload_n 0, 1) := by decide +kernel
theorem dX7_unhang_41 : decode cX7_unhang 41 = .ok (.getfield 15, 3) := by decide +kernel
theorem dX7_unhang_44 : decode cX7_unhang 44 = .ok (.iload_n 1, 1) := by decide +kernel
theorem dX7_unhang_45 : decode cX7_unhang 45 = .ok (.iconst (-1), 1) := by decide +kernel
theorem dX7_unhang_46 : decode cX7_unhang 46 = .ok (.iastore, 1) := by decide +kernel
theorem dX7_unhang_47 : decode cX7_unhang 47 = .ok (.iconst 1, 1) := by decide +kernel
theorem dX7_unhang_48 : decode cX7_unhang 48 = .ok (.ireturn, 1) := by decide +kernel
theorem dX7_fits_0 : decode cX7_fits 0 = .ok (.aload_n 0, 1) := by decide +kernel
theorem dX7_fits_1 : decode cX7_fits 1 = .ok (.getfield 25, 3) := by decide +kernel
theorem dX7_fits_4 : decode cX7_fits 4 = .ok (.getfield 61, 3) := by decide +kernel
theorem dX7_fits_7 : decode cX7_fits 7 = .ok (.aload_n 0, 1) := by decide +kernel
theorem dX7_fits_8 : decode cX7_fits 8 = .ok (.getfield 21, 3) := by decide +kernel
theorem dX7_fits_11 : decode cX7_fits 11 = .ok (.getfield 66, 3) := by decide +kernel
theorem dX7_fits_14 : decode cX7_fits 14 = .ok (.iload_n 2, 1) := by decide +kernel
theorem dX7_fits_15 : decode cX7_fits 15 = .ok (.iaload, 1) := by decide +kernel
theorem dX7_fits_16 : decode cX7_fits 16 = .ok (.iconst 4, 1) := by decide +kernel
theorem dX7_fits_17 : decode cX7_fits 17 = .ok (.imul, 1) := by decide +kernel
theorem dX7_fits_18 : decode cX7_fits 18 = .ok (.iload_n 3, 1) := by decide +kernel
theorem dX7_fits_19 : decode cX7_fits 19 = .ok (.iadd, 1) := by decide +kernel
theorem dX7_fits_20 : decode cX7_fits 20 = .ok (.iaload, 1) := by decide +kernel
theorem dX7_fits_21 : decode cX7_fits 21 = .ok (.aload_n 0, 1) := by decide +kernel
theorem dX7_fits_22 : decode cX7_fits 22 = .ok (.getfield 21, 3) := by decide +kernel
theorem dX7_fits_25 : decode cX7_fits 25 = .ok (.getfield 66, 3) := by decide +kernel
theorem dX7_fits_28 : decode cX7_fits 28 = .ok (.iload_n 1, 1) := by decide +kernel
theorem dX7_fits_29 : decode cX7_fits 29 = .ok (.iaload, 1) := by decide +kernel
theorem dX7_fits_30 : decode cX7_fits 30 = .ok (.if_icmp .ne 7, 3) := by decide +kernel
theorem dX7_fits_33 : decode cX7_fits 33 = .ok (.iconst 1, 1) := by decide +kernel
theorem dX7_fits_34 : decode cX7_fits 34 = .ok (.goto 4, 3) := by decide +kernel
theorem dX7_fits_37 : decode cX7_fits 37 = .ok (.iconst 0, 1) := by decide +kernel
theorem dX7_fits_38 : decode cX7_fits 38 = .ok (.ireturn, 1) := by decide +kernel
theorem dX7_topOf_0 : decode cX7_topOf 0 = .ok (.iload_n 1, 1) := by decide +kernel
theorem dX7_topOf_1 : decode cX7_topOf 1 = .ok (.istore_n 2, 1) := by decide +kernel
theorem dX7_topOf_2 : decode cX7_topOf 2 = .ok (.iconst 0, 1) := by decide +kernel
theorem dX7_topOf_3 : decode cX7_topOf 3 = .ok (.istore_n 3, 1) := by decide +kernel
theorem dX7_topOf_4 : decode cX7_topOf 4 = .ok (.iload_n 3, 1) := by decide +kernel
theorem dX7_topOf_5 : decode cX7_topOf 5 = .ok (.iconst 4, 1) := by decide +kernel
theorem dX7_topOf_6 : decode cX7_topOf 6 = .ok (.if_icmp .ge 26, 3) := by decide +kernel
theorem dX7_topOf_9 : decode cX7_topOf 9 = .ok (.aload_n 0, 1) := by decide +kernel
theorem dX7_topOf_10 : decode cX7_topOf 10 = .ok (.getfield 9, 3) := by decide +kernel
theorem dX7_topOf_13 : decode cX7_topOf 13 = .ok (.iload_n 2, 1) := by decide +kernel
theorem dX7_topOf_14 : decode cX7_topOf 14 = .ok (.iaload, 1) := by decide +kernel
theorem dX7_topOf_15 : decode cX7_topOf 15 = .ok (.iconst (-1), 1) := by decide +kernel
theorem dX7_topOf_16 : decode cX7_topOf 16 = .ok (.if_icmp .eq 16, 3) := by decide +kernel
theorem dX7_topOf_19 : decode cX7_topOf 19 = .ok (.aload_n 0, 1) := by decide +kernel
theorem dX7_topOf_20 : decode cX7_topOf 20 = .ok (.getfield 9, 3) := by decide +kernel
theorem dX7_topOf_23 : decode cX7_topOf 23 = .ok (.iload_n 2, 1) := by decide +kernel
theorem dX7_topOf_24 : decode cX7_topOf 24 = .ok (.iaload, 1) := by decide +kernel
theorem dX7_topOf_25 : decode cX7_topOf 25 = .ok (.istore_n 2, 1) := by decide +kernel
theorem dX7_topOf_26 : decode cX7_topOf 26 = .ok (.iinc 3 1, 3) := by decide +kernel
theorem dX7_topOf_29 : decode cX7_topOf 29 = .ok (.goto (-25), 3) := by decide +kernel
theorem dX7_topOf_32 : decode cX7_topOf 32 = .ok (.iload_n 2, 1) := by decide +kernel
theorem dX7_topOf_33 : decode cX7_topOf 33 = .ok (.ireturn, 1) := by decide +kernel
theorem dX7_depthOf_0 : decode cX7_depthOf 0 = .ok (.aload_n 0, 1) := by decide +kernel
theorem dX7_depthOf_1 : decode cX7_depthOf 1 = .ok (.aload_n 0, 1) := by decide +kernel
theorem dX7_depthOf_2 : decode cX7_depthOf 2 = .ok (.iload_n 1, 1) := by decide +kernel
theorem dX7_depthOf_3 : decode cX7_depthOf 3 = .ok (.invokevirtual 71, 3) := by decide +kernel
theorem dX7_depthOf_6 : decode cX7_depthOf 6 = .ok (.iload_n 1, 1) := by decide +kernel
theorem dX7_depthOf_7 : decode cX7_depthOf 7 = .ok (.invokevirtual 50, 3) := by decide +kernel
theorem dX7_depthOf_10 : decode cX7_depthOf 10 = .ok (.ireturn, 1) := by decide +kernel
theorem dX7_levelsAbove_0 : decode cX7_levelsAbove 0 = .ok (.iload_n 2, 1) := by decide +kernel
theorem dX7_levelsAbove_1 : decode cX7_levelsAbove 1 = .ok (.istore_n 3, 1) := by decide +kernel
theorem dX7_levelsAbove_2 : decode cX7_levelsAbove 2 = .ok (.iconst 0, 1) := by decide +kernel
theorem dX7_levelsAbove_3 : decode cX7_levelsAbove 3 = .ok (.istore 4, 2) := by decide +kernel
theorem dX7_levelsAbove_5 : decode cX7_levelsAbove 5 = .ok (.iload 4, 2) := by decide +kernel
theorem dX7_levelsAbove_7 : decode cX7_levelsAbove 7 = .ok (.iconst 4, 1) := by decide +kernel
theorem dX7_levelsAbove_8 : decode cX7_levelsAbove 8 = .ok (.if_icmp .gt 29, 3) := by decide +kernel
theorem dX7_levelsAbove_11 : decode cX7_levelsAbove 11 = .ok (.iload_n 3, 1) := by decide +kernel
theorem dX7_levelsAbove_12 : decode cX7_levelsAbove 12 = .ok (.iconst (-1), 1) := by decide +kernel
theorem dX7_levelsAbove_13 : decode cX7_levelsAbove 13 = .ok (.if_icmp .eq 24, 3) := by decide +kernel
theorem dX7_levelsAbove_16 : decode cX7_levelsAbove 16 = .ok (.iload_n 3, 1) := by decide +kernel
theorem dX7_levelsAbove_17 : decode cX7_levelsAbove 17 = .ok (.iload_n 1, 1) := by decide +kernel
theorem dX7_levelsAbove_18 : decode cX7_levelsAbove 18 = .ok (.if_icmp .ne 6, 3) := by decide +kernel
theorem dX7_levelsAbove_21 : decode cX7_levelsAbove 21 = .ok (.iload 4, 2) := by decide +kernel
theorem dX7_levelsAbove_23 : decode cX7_levelsAbove 23 = .ok (.ireturn, 1) := by decide +kernel
theorem dX7_levelsAbove_24 : decode cX7_levelsAbove 24 = .ok (.aload_n 0, 1) := by decide +kernel
theorem dX7_levelsAbove_25 : decode cX7_levelsAbove 25 = .ok (.getfield 9, 3) := by decide +kernel
theorem dX7_levelsAbove_28 : decode cX7_levelsAbove 28 = .ok (.iload_n 3, 1) := by decide +kernel
theorem dX7_levelsAbove_29 : decode cX7_levelsAbove 29 = .ok (.iaload, 1) := by decide +kernel
theorem dX7_levelsAbove_30 : decode cX7_levelsAbove 30 = .ok (.istore_n 3, 1) := by decide +kernel
theorem dX7_levelsAbove_31 : decode cX7_levelsAbove 31 = .ok (.iinc 4 1, 3) := by decide +kernel
theorem dX7_levelsAbove_34 : decode cX7_levelsAbove 34 = .ok (.goto (-29), 3) := by decide +kernel
theorem dX7_levelsAbove_37 : decode cX7_levelsAbove 37 = .ok (.iconst (-1), 1) := by decide +kernel
theorem dX7_levelsAbove_38 : decode cX7_levelsAbove 38 = .ok (.ireturn, 1) := by decide +kernel
theorem dX7_heightOf_0 : decode cX7_heightOf 0 = .ok (.iconst 0, 1) := by decide +kernel
theorem dX7_heightOf_1 : decode cX7_heightOf 1 = .ok (.istore_n 2, 1) := by decide +kernel
theorem dX7_heightOf_2 : decode cX7_heightOf 2 = .ok (.iconst 0, 1) := by decide +kernel
theorem dX7_heightOf_3 : decode cX7_heightOf 3 = .ok (.istore_n 3, 1) := by decide +kernel
theorem dX7_heightOf_4 : decode cX7_heightOf 4 = .ok (.iload_n 3, 1) := by decide +kernel
theorem dX7_heightOf_5 : decode cX7_heightOf 5 = .ok (.bipush 40, 2) := by decide +kernel
theorem dX7_heightOf_7 : decode cX7_heightOf 7 = .ok (.if_icmp .ge 20, 3) := by decide +kernel
theorem dX7_heightOf_10 : decode cX7_heightOf 10 = .ok (.iload_n 2, 1) := by decide +kernel
theorem dX7_heightOf_11 : decode cX7_heightOf 11 = .ok (.aload_n 0, 1) := by decide +kernel
theorem dX7_heightOf_12 : decode cX7_heightOf 12 = .ok (.iload_n 1, 1) := by decide +kernel
theorem dX7_heightOf_13 : decode cX7_heightOf 13 = .ok (.iload_n 3, 1) := by decide +kernel
theorem dX7_heightOf_14 : decode cX7_heightOf 14 = .ok (.invokevirtual 50, 3) := by decide +kernel
theorem dX7_heightOf_17 : decode cX7_heightOf 17 = .ok (.invokestatic 74, 3) := by decide +kernel
theorem dX7_heightOf_20 : decode cX7_heightOf 20 = .ok (.istore_n 2, 1) := by decide +kernel
theorem dX7_heightOf_21 : decode cX7_heightOf 21 = .ok (.iinc 3 1, 3) := by decide +kernel
theorem dX7_heightOf_24 : decode cX7_heightOf 24 = .ok (.goto (-20), 3) := by decide +kernel
theorem dX7_heightOf_27 : decode cX7_heightOf 27 = .ok (.iload_n 2, 1) := by decide +kernel
theorem dX7_heightOf_28 : decode cX7_heightOf 28 = .ok (.ireturn, 1) := by decide +kernel
theorem dX8_init_0 : decode cX8_init 0 = .ok (.aload_n 0, 1) := by decide +kernel
theorem dX8_init_1 : decode cX8_init 1 = .ok (.invokespecial 3, 3) := by decide +kernel
theorem dX8_init_4 : decode cX8_init 4 = .ok (.aload_n 0, 1) := by decide +kernel
theorem dX8_init_5 : decode cX8_init 5 = .ok (.new 9, 3) := by decide +kernel
theorem dX8_init_8 : decode cX8_init 8 = .ok (.dup, 1) := by decide +kernel
theorem dX8_init_9 : decode cX8_init 9 = .ok (.invokespecial 11, 3) := by decide +kernel
theorem dX8_init_12 : decode cX8_init 12 = .ok (.putfield 12, 3) := by decide +kernel
theorem dX8_init_15 : decode cX8_init 15 = .ok (.aload_n 0, 1) := by decide +kernel
theorem dX8_init_16 : decode cX8_init 16 = .ok (.new 16, 3) := by decide +kernel
theorem dX8_init_19 : decode cX8_init 19 = .ok (.dup, 1) := by decide +kernel
theorem dX8_init_20 : decode cX8_init 20 = .ok (.aload_n 0, 1) := by decide +kernel
theorem dX8_init_21 : decode cX8_init 21 = .ok (.getfield 12, 3) := by decide +kernel
theorem dX8_init_24 : decode cX8_init 24 = .ok (.invokespecial 18, 3) := by decide +kernel
theorem dX8_init_27 : decode cX8_init 27 = .ok (.putfield 21, 3) := by decide +kernel
theorem dX8_init_30 : decode cX8_init 30 = .ok (.aload_n 0, 1) := by decide +kernel
theorem dX8_init_31 : decode cX8_init 31 = .ok (.new 25, 3) := by decide +kernel
theorem dX8_init_34 : decode cX8_init 34 = .ok (.dup, 1) := by decide +kernel
theorem dX8_init_35 : decode cX8_init 35 = .ok (.invokespecial 27, 3) := by decide +kernel
theorem dX8_init_38 : decode cX8_init 38 = .ok (.putfield 28, 3) := by decide +kernel
theorem dX8_init_41 : decode cX8_init 41 = .ok (.aload_n 0, 1) := by decide +kernel
theorem dX8_init_42 : decode cX8_init 42 = .ok (.new 32, 3) := by decide +kernel
theorem dX8_init_45 : decode cX8_init 45 = .ok (.dup, 1) := by decide +kernel
theorem dX8_init_46 : decode cX8_init 46 = .ok (.invokespecial 34, 3) := by decide +kernel
theorem dX8_init_49 : decode cX8_init 49 = .ok (.putfield 35, 3) := by decide +kernel
theorem dX8_init_52 : decode cX8_init 52 = .ok (.aload_n 0, 1) := by decide +kernel
theorem dX8_init_53 : decode cX8_init 53 = .ok (.new 39, 3) := by decide +kernel
theorem dX8_init_56 : decode cX8_init 56 = .ok (.dup, 1) := by decide +kernel
theorem dX8_init_57 : decode cX8_init 57 = .ok (.aload_n 0, 1) := by decide +kernel
theorem dX8_init_58 : decode cX8_init 58 = .ok (.getfield 21, 3) := by decide +kernel
theorem dX8_init_61 : decode cX8_init 61 = .ok (.aload_n 0, 1) := by decide +kernel
theorem dX8_init_62 : decode cX8_init 62 = .ok (.getfield 12, 3) := by decide +kernel
theorem dX8_init_65 : decode cX8_init 65 = .ok (.invokespecial 41, 3) := by decide +kernel
theorem dX8_init_68 : decode cX8_init 68 = .ok (.putfield 44, 3) := by decide +kernel
theorem dX8_init_71 : decode cX8_init 71 = .ok (.aload_n 0, 1) := by decide +kernel
theorem dX8_init_72 : decode cX8_init 72 = .ok (.new 48, 3) := by decide +kernel
theorem dX8_init_75 : decode cX8_init 75 = .ok (.dup, 1) := by decide +kernel
theorem dX8_init_76 : decode cX8_init 76 = .ok (.aload_n 0, 1) := by decide +kernel
theorem dX8_init_77 : decode cX8_init 77 = .ok (.getfield 21, 3) := by decide +kernel
theorem dX8_init_80 : decode cX8_init 80 = .ok (.aload_n 0, 1) := by decide +kernel
theorem dX8_init_81 : decode cX8_init 81 = .ok (.getfield 28, 3) := by decide +kernel
theorem dX8_init_84 : decode cX8_init 84 = .ok (.aload_n 0, 1) := by decide +kernel
theorem dX8_init_85 : decode cX8_init 85 = .ok (.getfield 35, 3) := by decide +kernel
theorem dX8_init_88 : decode cX8_init 88 = .ok (.aload_n 0, 1) := by decide +kernel
theorem dX8_init_89 : decode cX8_init 89 = .ok (.getfield 44, 3) := by decide +kernel
theorem dX8_init_92 : decode cX8_init 92 = .ok (.new 50, 3) := by decide +kernel
theorem dX8_init_95 : decode cX8_init 95 = .ok (.dup, 1) := by decide +kernel
theorem dX8_init_96 : decode cX8_init 96 = .ok (.aload_n 0, 1) := by decide +kernel
theorem dX8_init_97 : decode cX8_init 97 = .ok (.getfield 21, 3) := by decide +kernel
theorem dX8_init_100 : decode cX8_init 100 = .ok (.aload_n 0, 1) := by decide +kernel
theorem dX8_init_101 : decode cX8_init 101 = .ok (.getfield 12, 3) := by decide +kernel
theorem dX8_init_104 : decode cX8_init 104 = .ok (.invokespecial 52, 3) := by decide +kernel
theorem dX8_init_107 : decode cX8_init 107 = .ok (.invokespecial 53, 3) := by decide +kernel
theorem dX8_init_110 : decode cX8_init 110 = .ok (.putfield 56, 3) := by decide +kernel
theorem dX8_init_113 : decode cX8_init 113 = .ok (.aload_n 0, 1) := by decide +kernel
theorem dX8_init_114 : decode cX8_init 114 = .ok (.sipush 640, 3) := by decide +kernel
theorem dX8_init_117 : decode cX8_init 117 = .ok (.newarray .int, 2) := by decide +kernel
theorem dX8_init_119 : decode cX8_init 119 = .ok (.putfield 60, 3) := by decide +kernel
theorem dX8_init_122 : decode cX8_init 122 = .ok (.return_, 1) := by decide +kernel
theorem dX8_place_0 : decode cX8_place 0 = .ok (.iload_n 3, 1) := by decide +kernel
theorem dX8_place_1 : decode cX8_place 1 = .ok (.iconst (-1), 1) := by decide +kernel
theorem dX8_place_2 : decode cX8_place 2 = .ok (.if_icmp .eq 12, 3) := by decide +kernel
theorem dX8_place_5 : decode cX8_place 5 = .ok (.iload_n 3, 1) := by decide +kernel
theorem dX8_place_6 : decode cX8_place 6 = .ok (.bipush 12, 2) := by decide +kernel
theorem dX8_place_8 : decode cX8_place 8 = .ok (.invokestatic 64, 3) := by decide +kernel
theorem dX8_place_11 : decode cX8_place 11 = .ok (.ifCond .eq 7, 3) := by decide +kernel
theorem dX8_place_14 : decode cX8_place 14 = .ok (.iconst 1, 1) := by decide +kernel
theorem dX8_place_15 : decode cX8_place 15 = .ok (.goto 4, 3) := by decide +kernel
theorem dX8_place_18 : decode cX8_place 18 = .ok (.iconst 0, 1) := by decide +kernel
theorem dX8_place_19 : decode cX8_place 19 = .ok (.istore 4, 2) := by decide +kernel
theorem dX8_place_21 : decode cX8_place 21 = .ok (.iload_n 1, 1) := by decide +kernel
theorem dX8_place_22 : decode cX8_place 22 = .ok (.bipush 12, 2) := by decide +kernel
theorem dX8_place_24 : decode cX8_place 24 = .ok (.invokestatic 64, 3) := by decide +kernel
theorem dX8_place_27 : decode cX8_place 27 = .ok (.ifCond .eq 26, 3) := by decide +kernel
theorem dX8_place_30 : decode cX8_place 30 = .ok (.iload_n 2, 1) := by decide +kernel
theorem dX8_place_31 : decode cX8_place 31 = .ok (.iconst 4, 1) := by decide +kernel
theorem dX8_place_32 : decode cX8_place 32 = .ok (.invokestatic 64, 3) := by decide +kernel
theorem dX8_place_35 : decode cX8_place 35 = .ok (.ifCond .eq 18, 3) := by decide +kernel
theorem dX8_place_38 : decode cX8_place 38 = .ok (.iload 4, 2) := by decide +kernel
theorem dX8_place_40 : decode cX8_place 40 = .ok (.ifCond .eq 13, 3) := by decide +kernel
theorem dX8_place_43 : decode cX8_place 43 = .ok (.aload_n 0, 1) := by decide +kernel
theorem dX8_place_44 : decode cX8_place 44 = .ok (.getfield 21, 3) := by decide +kernel
theorem dX8_place_47 : decode cX8_place 47 = .ok (.getfield 68, 3) := by decide +kernel
theorem dX8_place_50 : decode cX8_place 50 = .ok (.ifCond .le 5, 3) := by decide +kernel
theorem dX8_place_53 : decode cX8_place 53 = .ok (.iconst 0, 1) := by decide +kernel
theorem dX8_place_54 : decode cX8_place 54 = .ok (.ireturn, 1) := by decide +kernel
theorem dX8_place_55 : decode cX8_place 55 = .ok (.aload_n 0, 1) := by decide +kernel
theorem dX8_place_56 : decode cX8_place 56 = .ok (.getfield 12, 3) := by decide +kernel
theorem dX8_place_59 : decode cX8_place 59 = .ok (.getfield 72, 3) := by decide +kernel
theorem dX8_place_62 : decode cX8_place 62 = .ok (.iload_n 1, 1) := by decide +kernel
theorem dX8_place_63 : decode cX8_place 63 = .ok (.iconst 4, 1) := by decide +kernel
theorem dX8_place_64 : decode cX8_place 64 = .ok (.imul, 1) := by decide +kernel
theorem dX8_place_65 : decode cX8_place 65 = .ok (.iload_n 2, 1) := by decide +kernel
theorem dX8_place_66 : decode cX8_place 66 = .ok (.iadd, 1) := by decide +kernel
theorem dX8_place_67 : decode cX8_place 67 = .ok (.iload_n 3, 1) := by decide +kernel
theorem dX8_place_68 : decode cX8_place 68 = .ok (.iastore, 1) := by decide +kernel
theorem dX8_place_69 : decode cX8_place 69 = .ok (.iconst 1, 1) := by decide +kernel
theorem dX8_place_70 : decode cX8_place 70 = .ok (.ireturn, 1) := by decide +kernel
theorem dX8_thing_0 : decode cX8_thing 0 = .ok (.iload_n 1, 1) := by decide +kernel
theorem dX8_thing_1 : decode cX8_thing 1 = .ok (.bipush 40, 2) := by decide +kernel
theorem dX8_thing_3 : decode cX8_thing 3 = .ok (.invokestatic 64, 3) := by decide +kernel
theorem dX8_thing_6 : decode cX8_thing 6 = .ok (.ifCond .eq 31, 3) := by decide +kernel
theorem dX8_thing_9 : decode cX8_thing 9 = .ok (.aload_n 0, 1) := by decide +kernel
theorem dX8_thing_10 : decode cX8_thing 10 = .ok (.getfield 21, 3) := by decide +kernel
theorem dX8_thing_13 : decode cX8_thing 13 = .ok (.iload_n 1, 1) := by decide +kernel
theorem dX8_thing_14 : decode cX8_thing 14 = .ok (.invokevirtual 75, 3) := by decide +kernel
theorem dX8_thing_17 : decode cX8_thing 17 = .ok (.ifCond .ne 20, 3) := by decide +kernel
theorem dX8_thing_20 : decode cX8_thing 20 = .ok (.iload_n 2, 1) := by decide +kernel
theorem dX8_thing_21 : decode cX8_thing 21 = .ok (.bipush 12, 2) := by decide +kernel
theorem dX8_thing_23 : decode cX8_thing 23 = .ok (.invokestatic 64, 3) := by decide +kernel
theorem dX8_thing_26 : decode cX8_thing 26 = .ok (.ifCond .eq 11, 3) := by decide +kernel
theorem dX8_thing_29 : decode cX8_thing 29 = .ok (.iload 5, 2) := by decide +kernel
theorem dX8_thing_31 : decode cX8_thing 31 = .ok (.invokestatic 79, 3) := by decide +kernel
theorem dX8_thing_34 : decode cX8_thing 34 = .ok (.ifCond .ne 5, 3) := by decide +kernel
theorem dX8_thing_37 : decode cX8_thing 37 = .ok (.iconst 0, 1) := by decide +kernel
theorem dX8_thing_38 : decode cX8_thing 38 = .ok (.ireturn, 1) := by decide +kernel
theorem dX8_thing_39 : decode cX8_thing 39 = .ok (.iload_n 3, 1) := by decide +kernel
theorem dX8_thing_40 : decode cX8_thing 40 = .ok (.ldc 82, 2) := by decide +kernel
theorem dX8_thing_42 : decode cX8_thing 42 = .ok (.invokestatic 83, 3) := by decide +kernel
theorem dX8_thing_45 : decode cX8_thing 45 = .ok (.ifCond .eq 13, 3) := by decide +kernel
theorem dX8_thing_48 : decode cX8_thing 48 = .ok (.iload 4, 2) := by decide +kernel
theorem dX8_thing_50 : decode cX8_thing 50 = .ok (.ldc 82, 2) := by decide +kernel
theorem dX8_thing_52 : decode cX8_thing 52 = .ok (.invokestatic 83, 3) := by decide +kernel
theorem dX8_thing_55 : decode cX8_thing 55 = .ok (.ifCond .ne 5, 3) := by decide +kernel
theorem dX8_thing_58 : decode cX8_thing 58 = .ok (.iconst 0, 1) := by decide +kernel
theorem dX8_thing_59 : decode cX8_thing 59 = .ok (.ireturn, 1) := by decide +kernel
theorem dX8_thing_60 : decode cX8_thing 60 = .ok (.aload_n 0, 1) := by decide +kernel
theorem dX8_thing_61 : decode cX8_thing 61 = .ok (.getfield 21, 3) := by decide +kernel
theorem dX8_thing_64 : decode cX8_thing 64 = .ok (.iload_n 1, 1) := by decide +kernel
theorem dX8_thing_65 : decode cX8_thing 65 = .ok (.iload_n 2, 1) := by decide +kernel
theorem dX8_thing_66 : decode cX8_thing 66 = .ok (.iload_n 3, 1) := by decide +kernel
theorem dX8_thing_67 : decode cX8_thing 67 = .ok (.iload 4, 2) := by decide +kernel
theorem dX8_thing_69 : decode cX8_thing 69 = .ok (.iload 5, 2) := by decide +kernel
theorem dX8_thing_71 : decode cX8_thing 71 = .ok (.invokevirtual 86, 3) := by decide +kernel
theorem dX8_thing_74 : decode cX8_thing 74 = .ok (.aload_n 0, 1) := by decide +kernel
theorem dX8_thing_75 : decode cX8_thing 75 = .ok (.getfield 56, 3) := by decide +kernel
theorem dX8_thing_78 : decode cX8_thing 78 = .ok (.invokevirtual 90, 3) := by decide +kernel
theorem dX8_thing_81 : decode cX8_thing 81 = .ok (.iconst 1, 1) := by decide +kernel
theorem dX8_thing_82 : decode cX8_thing 82 = .ok (.ireturn, 1) := by decide +kernel
theorem dX8_task_0 : decode cX8_task 0 = .ok (.iload_n 1, 1) := by decide +kernel
theorem dX8_task_1 : decode cX8_task 1 = .ok (.bipush 16, 2) := by decide +kernel
theorem dX8_task_3 : decode cX8_task 3 = .ok (.invokestatic 64, 3) := by decide +kernel
theorem dX8_task_6 : decode cX8_task 6 = .ok (.ifCond .eq 17, 3) := by decide +kernel
theorem dX8_task_9 : decode cX8_task 9 = .ok (.iload_n 2, 1) := by decide +kernel
theorem dX8_task_10 : decode cX8_task 10 = .ok (.bipush 12, 2) := by decide +kernel
theorem dX8_task_12 : decode cX8_task 12 = .ok (.invokestatic 64, 3) := by decide +kernel
theorem dX8_task_15 : decode cX8_task 15 = .ok (.ifCond .eq 8, 3) := by decide +kernel
theorem dX8_task_18 : decode cX8_task 18 = .ok (.iload 5, 2) := by decide +kernel
theorem dX8_task_20 : decode cX8_task 20 = .ok (.ifCond .ge 5, 3) := by decide +kernel
theorem dX8_task_23 : decode cX8_task 23 = .ok (.iconst 0, 1) := by decide +kernel
theorem dX8_task_24 : decode cX8_task 24 = .ok (.ireturn, 1) := by decide +kernel
theorem dX8_task_25 : decode cX8_task 25 = .ok (.aload_n 0, 1) := by decide +kernel
theorem dX8_task_26 : decode cX8_task 26 = .ok (.getfield 28, 3) := by decide +kernel
theorem dX8_task_29 : decode cX8_task 29 = .ok (.iload_n 1, 1) := by decide +kernel
theorem dX8_task_30 : decode cX8_task 30 = .ok (.invokevirtual 93, 3) := by decide +kernel
theorem dX8_task_33 : decode cX8_task 33 = .ok (.ifCond .eq 18, 3) := by decide +kernel
theorem dX8_task_36 : decode cX8_task 36 = .ok (.aload_n 0, 1) := by decide +kernel
theorem dX8_task_37 : decode cX8_task 37 = .ok (.getfield 28, 3) := by decide +kernel
theorem dX8_task_40 : decode cX8_task 40 = .ok (.getfield 94, 3) := by decide +kernel
theorem dX8_task_43 : decode cX8_task 43 = .ok (.iload_n 1, 1) := by decide +kernel
theorem dX8_task_44 : decode cX8_task 44 = .ok (.iaload, 1) := by decide +kernel
theorem dX8_task_45 : decode cX8_task 45 = .ok (.iload_n 2, 1) := by decide +kernel
theorem dX8_task_46 : decode cX8_task 46 = .ok (.if_icmp .eq 5, 3) := by decide +kernel
theorem dX8_task_49 : decode cX8_task 49 = .ok (.iconst 0, 1) := by decide +kernel
theorem dX8_task_50 : decode cX8_task 50 = .ok (.ireturn, 1) := by decide +kernel
theorem dX8_task_51 : decode cX8_task 51 = .ok (.iload 5, 2) := by decide +kernel
theorem dX8_task_53 : decode cX8_task 53 = .ok (.sipush 1000, 3) := by decide +kernel
theorem dX8_task_56 : decode cX8_task 56 = .ok (.idiv, 1) := by decide +kernel
theorem dX8_task_57 : decode cX8_task 57 = .ok (.istore 6, 2) := by decide +kernel
theorem dX8_task_59 : decode cX8_task 59 = .ok (.iload 5, 2) := by decide +kernel
theorem dX8_task_61 : decode cX8_task 61 = .ok (.sipush 1000, 3) := by decide +kernel
theorem dX8_task_64 : decode cX8_task 64 = .ok (.irem, 1) := by decide +kernel
theorem dX8_task_65 : decode cX8_task 65 = .ok (.istore 7, 2) := by decide +kernel
theorem dX8_task_67 : decode cX8_task 67 = .ok (.iload_n 3, 1) := by decide +kernel
theorem dX8_task_68 : decode cX8_task 68 = .ok (.invokestatic 97, 3) := by decide +kernel
theorem dX8_task_71 : decode cX8_task 71 = .ok (.ifCond .eq 27, 3) := by decide +kernel
theorem dX8_task_74 : decode cX8_task 74 = .ok (.iload 4, 2) := by decide +kernel
theorem dX8_task_76 : decode cX8_task 76 = .ok (.invokestatic 97, 3) := by decide +kernel
theorem dX8_task_79 : decode cX8_task 79 = .ok (.ifCond .eq 19, 3) := by decide +kernel
theorem dX8_task_82 : decode cX8_task 82 = .ok (.iload 6, 2) := by decide +kernel
theorem dX8_task_84 : decode cX8_task 84 = .ok (.invokestatic 97, 3) := by decide +kernel
theorem dX8_task_87 : decode cX8_task 87 = .ok (.ifCond .eq 11, 3) := by decide +kernel
theorem dX8_task_90 : decode cX8_task 90 = .ok (.iload 7, 2) := by decide +kernel
theorem dX8_task_92 : decode cX8_task 92 = .ok (.sipush 500, 3) := by decide +kernel
theorem dX8_task_95 : decode cX8_task 95 = .ok (.if_icmp .le 5, 3) := by decide +kernel
theorem dX8_task_98 : decode cX8_task 98 = .ok (.iconst 0, 1) := by decide +kernel
theorem dX8_task_99 : decode cX8_task 99 = .ok (.ireturn, 1) := by decide +kernel
theorem dX8_task_100 : decode cX8_task 100 = .ok (.aload_n 0, 1) := by decide +kernel
theorem dX8_task_101 : decode cX8_task 101 = .ok (.getfield 28, 3) := by decide +kernel
theorem dX8_task_104 : decode cX8_task 104 = .ok (.iload_n 1, 1) := by decide +kernel
theorem dX8_task_105 : decode cX8_task 105 = .ok (.iload_n 2, 1) := by decide +kernel
theorem dX8_task_106 : decode cX8_task 106 = .ok (.iload_n 3, 1) := by decide +kernel
theorem dX8_task_107 : decode cX8_task 107 = .ok (.iload 4, 2) := by decide +kernel
theorem dX8_task_109 : decode cX8_task 109 = .ok (.iload 6, 2) := by decide +kernel
theorem dX8_task_111 : decode cX8_task 111 = .ok (.iload 7, 2) := by decide +kernel
theorem dX8_task_113 : decode cX8_task 113 = .ok (.invokevirtual 100, 3) := by decide +kernel
theorem dX8_task_116 : decode cX8_task 116 = .ok (.aload_n 0, 1) := by decide +kernel
theorem dX8_task_117 : decode cX8_task 117 = .ok (.getfield 56, 3) := by decide +kernel
theorem dX8_task_120 : decode cX8_task 120 = .ok (.invokevirtual 90, 3) := by decide +kernel
theorem dX8_task_123 : decode cX8_task 123 = .ok (.iconst 1, 1) := by decide +kernel
theorem dX8_task_124 : decode cX8_task 124 = .ok (.ireturn, 1) := by decide +kernel
theorem dX8_order_0 : decode cX8_order 0 = .ok (.iload_n 1, 1) := by decide +kernel
theorem dX8_order_1 : decode cX8_order 1 = .ok (.bipush 8, 2) := by decide +kernel
theorem dX8_order_3 : decode cX8_order 3 = .ok (.invokestatic 64, 3) := by decide +kernel
theorem dX8_order_6 : decode cX8_order 6 = .ok (.ifCond .eq 22, 3) := by decide +kernel
theorem dX8_order_9 : decode cX8_order 9 = .ok (.iload_n 2, 1) := by decide +kernel
theorem dX8_order_10 : decode cX8_order 10 = .ok (.bipush 12, 2) := by decide +kernel
theorem dX8_order_12 : decode cX8_order 12 = .ok (.invokestatic 64, 3) := by decide +kernel
theorem dX8_order_15 : decode cX8_order 15 = .ok (.ifCond .eq 13, 3) := by decide +kernel
theorem dX8_order_18 : decode cX8_order 18 = .ok (.iload_n 3, 1) := by decide +kernel
theorem dX8_order_19 : decode cX8_order 19 = .ok (.sipush 1600, 3) := by decide +kernel
theorem dX8_order_22 : decode cX8_order 22 = .ok (.invokestatic 64, 3) := by decide +kernel
theorem dX8_order_25 : decode cX8_order 25 = .ok (.ifCond .ne 5, 3) := by decide +kernel
theorem dX8_order_28 : decode cX8_order 28 = .ok (.iconst 0, 1) := by decide +kernel
theorem dX8_order_29 : decode cX8_order 29 = .ok (.ireturn, 1) := by decide +kernel
theorem dX8_order_30 : decode cX8_order 30 = .ok (.iload_n 3, 1) := by decide +kernel
theorem dX8_order_31 : decode cX8_order 31 = .ok (.bipush 40, 2) := by decide +kernel
theorem dX8_order_33 : decode cX8_order 33 = .ok (.idiv, 1) := by decide +kernel
theorem dX8_order_34 : decode cX8_order 34 = .ok (.istore 6, 2) := by decide +kernel
theorem dX8_order_36 : decode cX8_order 36 = .ok (.iload_n 3, 1) := by decide +kernel
theorem dX8_order_37 : decode cX8_order 37 = .ok (.bipush 40, 2) := by decide +kernel
theorem dX8_order_39 : decode cX8_order 39 = .ok (.irem, 1) := by decide +kernel
theorem dX8_order_40 : decode cX8_order 40 = .ok (.istore 7, 2) := by decide +kernel
theorem dX8_order_42 : decode cX8_order 42 = .ok (.iload 6, 2) := by decide +kernel
theorem dX8_order_44 : decode cX8_order 44 = .ok (.iload 7, 2) := by decide +kernel
theorem dX8_order_46 : decode cX8_order 46 = .ok (.if_icmp .gt 33, 3) := by decide +kernel
theorem dX8_order_49 : decode cX8_order 49 = .ok (.aload_n 0, 1) := by decide +kernel
theorem dX8_order_50 : decode cX8_order 50 = .ok (.getfield 28, 3) := by decide +kernel
theorem dX8_order_53 : decode cX8_order 53 = .ok (.iload 4, 2) := by decide +kernel
theorem dX8_order_55 : decode cX8_order 55 = .ok (.invokevirtual 93, 3) := by decide +kernel
theorem dX8_order_58 : decode cX8_order 58 = .ok (.ifCond .eq 21, 3) := by decide +kernel
theorem dX8_order_61 : decode cX8_order 61 = .ok (.iload 5, 2) := by decide +kernel
theorem dX8_order_63 : decode cX8_order 63 = .ok (.iconst (-1), 1) := by decide +kernel
theorem dX8_order_64 : decode cX8_order 64 = .ok (.if_icmp .eq 17, 3) := by decide +kernel
theorem dX8_order_67 : decode cX8_order 67 = .ok (.aload_n 0, 1) := by decide +kernel
theorem dX8_order_68 : decode cX8_order 68 = .ok (.getfield 28, 3) := by decide +kernel
theorem dX8_order_71 : decode cX8_order 71 = .ok (.iload 5, 2) := by decide +kernel
theorem dX8_order_73 : decode cX8_order 73 = .ok (.invokevirtual 93, 3) := by decide +kernel
theorem dX8_order_76 : decode cX8_order 76 = .ok (.ifCond .ne 5, 3) := by decide +kernel
theorem dX8_order_79 : decode cX8_order 79 = .ok (.iconst 0, 1) := by decide +kernel
theorem dX8_order_80 : decode cX8_order 80 = .ok (.ireturn, 1) := by decide +kernel
theorem dX8_order_81 : decode cX8_order 81 = .ok (.aload_n 0, 1) := by decide +kernel
theorem dX8_order_82 : decode cX8_order 82 = .ok (.getfield 35, 3) := by decide +kernel
theorem dX8_order_85 : decode cX8_order 85 = .ok (.iload_n 1, 1) := by decide +kernel
theorem dX8_order_86 : decode cX8_order 86 = .ok (.iload_n 2, 1) := by decide +kernel
theorem dX8_order_87 : decode cX8_order 87 = .ok (.iload 6, 2) := by decide +kernel
theorem dX8_order_89 : decode cX8_order 89 = .ok (.iload 7, 2) := by decide +kernel
theorem dX8_order_91 : decode cX8_order 91 = .ok (.iload 4, 2) := by decide +kernel
theorem dX8_order_93 : decode cX8_order 93 = .ok (.iload 5, 2) := by decide +kernel
theorem dX8_order_95 : decode cX8_order 95 = .ok (.invokevirtual 104, 3) := by decide +kernel
theorem dX8_order_98 : decode cX8_order 98 = .ok (.iconst 1, 1) := by decide +kernel
theorem dX8_order_99 : decode cX8_order 99 = .ok (.ireturn, 1) := by decide +kernel
theorem dX8_life_0 : decode cX8_life 0 = .ok (.iload_n 1, 1) := by decide +kernel
theorem dX8_life_1 : decode cX8_life 1 = .ok (.bipush 12, 2) := by decide +kernel
theorem dX8_life_3 : decode cX8_life 3 = .ok (.invokestatic 64, 3) := by decide +kernel
theorem dX8_life_6 : decode cX8_life 6 = .ok (.ifCond .eq 21, 3) := by decide +kernel
theorem dX8_life_9 : decode cX8_life 9 = .ok (.iload_n 2, 1) := by decide +kernel
theorem dX8_life_10 : decode cX8_life 10 = .ok (.ldc 82, 2) := by decide +kernel
theorem dX8_life_12 : decode cX8_life 12 = .ok (.invokestatic 83, 3) := by decide +kernel
theorem dX8_life_15 : decode cX8_life 15 = .ok (.ifCond .eq 12, 3) := by decide +kernel
theorem dX8_life_18 : decode cX8_life 18 = .ok (.iload_n 3, 1) := by decide +kernel
theorem dX8_life_19 : decode cX8_life 19 = .ok (.ldc 82, 2) := by decide +kernel
theorem dX8_life_21 : decode cX8_life 21 = .ok (.invokestatic 83, 3) := by decide +kernel
theorem dX8_life_24 : decode cX8_life 24 = .ok (.ifCond .ne 5, 3) := by decide +kernel
theorem dX8_life_27 : decode cX8_life 27 = .ok (.iconst 0, 1) := by decide +kernel
theorem dX8_life_28 : decode cX8_life 28 = .ok (.ireturn, 1) := by decide +kernel
theorem dX8_life_29 : decode cX8_life 29 = .ok (.aload_n 0, 1) := by decide +kernel
theorem dX8_life_30 : decode cX8_life 30 = .ok (.getfield 12, 3) := by decide +kernel
theorem dX8_life_33 : decode cX8_life 33 = .ok (.getfield 105, 3) := by decide +kernel
theorem dX8_life_36 : decode cX8_life 36 = .ok (.iconst 0, 1) := by decide +kernel
theorem dX8_life_37 : decode cX8_life 37 = .ok (.aaload, 1) := by decide +kernel
theorem dX8_life_38 : decode cX8_life 38 = .ok (.iload_n 1, 1) := by decide +kernel
theorem dX8_life_39 : decode cX8_life 39 = .ok (.iload_n 2, 1) := by decide +kernel
theorem dX8_life_40 : decode cX8_life 40 = .ok (.iastore, 1) := by decide +kernel
theorem dX8_life_41 : decode cX8_life 41 = .ok (.aload_n 0, 1) := by decide +kernel
theorem dX8_life_42 : decode cX8_life 42 = .ok (.getfield 12, 3) := by decide +kernel
theorem dX8_life_45 : decode cX8_life 45 = .ok (.getfield 105, 3) := by decide +kernel
theorem dX8_life_48 : decode cX8_life 48 = .ok (.iconst 1, 1) := by decide +kernel
theorem dX8_life_49 : decode cX8_life 49 = .ok (.aaload, 1) := by decide +kernel
theorem dX8_life_50 : decode cX8_life 50 = .ok (.iload_n 1, 1) := by decide +kernel
theorem dX8_life_51 : decode cX8_life 51 = .ok (.iload_n 3, 1) := by decide +kernel
theorem dX8_life_52 : decode cX8_life 52 = .ok (.iastore, 1) := by decide +kernel
theorem dX8_life_53 : decode cX8_life 53 = .ok (.iconst 1, 1) := by decide +kernel
theorem dX8_life_54 : decode cX8_life 54 = .ok (.ireturn, 1) := by decide +kernel
theorem dX8_flight_0 : decode cX8_flight 0 = .ok (.aload_n 0, 1) := by decide +kernel
theorem dX8_flight_1 : decode cX8_flight 1 = .ok (.getfield 21, 3) := by decide +kernel
theorem dX8_flight_4 : decode cX8_flight 4 = .ok (.iload_n 1, 1) := by decide +kernel
theorem dX8_flight_5 : decode cX8_flight 5 = .ok (.invokevirtual 109, 3) := by decide +kernel
theorem dX8_flight_8 : decode cX8_flight 8 = .ok (.ifCond .eq 33, 3) := by decide +kernel
theorem dX8_flight_11 : decode cX8_flight 11 = .ok (.iload_n 2, 1) := by decide +kernel
theorem dX8_flight_12 : decode cX8_flight 12 = .ok (.invokestatic 112, 3) := by decide +kernel
theorem dX8_flight_15 : decode cX8_flight 15 = .ok (.ifCond .eq 26, 3) := by decide +kernel
theorem dX8_flight_18 : decode cX8_flight 18 = .ok (.iload_n 3, 1) := by decide +kernel
theorem dX8_flight_19 : decode cX8_flight 19 = .ok (.ldc 115, 2) := by decide +kernel
theorem dX8_flight_21 : decode cX8_flight 21 = .ok (.invokestatic 83, 3) := by decide +kernel
theorem dX8_flight_24 : decode cX8_flight 24 = .ok (.ifCond .eq 17, 3) := by decide +kernel
theorem dX8_flight_27 : decode cX8_flight 27 = .ok (.iload 4, 2) := by decide +kernel
theorem dX8_flight_29 : decode cX8_flight 29 = .ok (.ldc 115, 2) := by decide +kernel
theorem dX8_flight_31 : decode cX8_flight 31 = .ok (.invokestatic 83, 3) := by decide +kernel
theorem dX8_flight_34 : decode cX8_flight 34 = .ok (.ifCond .eq 7, 3) := by decide +kernel
theorem dX8_flight_37 : decode cX8_flight 37 = .ok (.iconst 1, 1) := by decide +kernel
theorem dX8_flight_38 : decode cX8_flight 38 = .ok (.goto 4, 3) := by decide +kernel
theorem dX8_flight_41 : decode cX8_flight 41 = .ok (.iconst 0, 1) := by decide +kernel
theorem dX8_flight_42 : decode cX8_flight 42 = .ok (.invokestatic 116, 3) := by decide +kernel
theorem dX8_flight_45 : decode cX8_flight 45 = .ok (.new 120, 3) := by decide +kernel
theorem dX8_flight_48 : decode cX8_flight 48 = .ok (.dup, 1) := by decide +kernel
theorem dX8_flight_49 : decode cX8_flight 49 = .ok (.iconst 2, 1) := by decide +kernel
theorem dX8_flight_50 : decode cX8_flight 50 = .ok (.iload_n 1, 1) := by decide +kernel
theorem dX8_flight_51 : decode cX8_flight 51 = .ok (.iload_n 2, 1) := by decide +kernel
theorem dX8_flight_52 : decode cX8_flight 52 = .ok (.invokespecial 122, 3) := by decide +kernel
theorem dX8_flight_55 : decode cX8_flight 55 = .ok (.astore 5, 2) := by decide +kernel
theorem dX8_flight_57 : decode cX8_flight 57 = .ok (.aload 5, 2) := by decide +kernel
theorem dX8_flight_59 : decode cX8_flight 59 = .ok (.iload_n 3, 1) := by decide +kernel
theorem dX8_flight_60 : decode cX8_flight 60 = .ok (.putfield 125, 3) := by decide +kernel
theorem dX8_flight_63 : decode cX8_flight 63 = .ok (.aload 5, 2) := by decide +kernel
theorem dX8_flight_65 : decode cX8_flight 65 = .ok (.iload 4, 2) := by decide +kernel
theorem dX8_flight_67 : decode cX8_flight 67 = .ok (.putfield 128, 3) := by decide +kernel
theorem dX8_flight_70 : decode cX8_flight 70 = .ok (.aload_n 0, 1) := by decide +kernel
theorem dX8_flight_71 : decode cX8_flight 71 = .ok (.aload 5, 2) := by decide +kernel
theorem dX8_flight_73 : decode cX8_flight 73 = .ok (.invokevirtual 131, 3) := by decide +kernel
theorem dX8_flight_76 : decode cX8_flight 76 = .ok (.ireturn, 1) := by decide +kernel
theorem dX8_put_0 : decode cX8_put 0 = .ok (.aload_n 0, 1) := by decide +kernel
theorem dX8_put_1 : decode cX8_put 1 = .ok (.getfield 21, 3) := by decide +kernel
theorem dX8_put_4 : decode cX8_put 4 = .ok (.iload_n 1, 1) := by decide +kernel
theorem dX8_put_5 : decode cX8_put 5 = .ok (.invokevirtual 75, 3) := by decide +kernel
theorem dX8_put_8 : decode cX8_put 8 = .ok (.ifCond .eq 34, 3) := by decide +kernel
theorem dX8_put_11 : decode cX8_put 11 = .ok (.aload_n 0, 1) := by decide +kernel
theorem dX8_put_12 : decode cX8_put 12 = .ok (.getfield 21, 3) := by decide +kernel
theorem dX8_put_15 : decode cX8_put 15 = .ok (.iload_n 2, 1) := by decide +kernel
theorem dX8_put_16 : decode cX8_put 16 = .ok (.invokevirtual 75, 3) := by decide +kernel
theorem dX8_put_19 : decode cX8_put 19 = .ok (.ifCond .eq 23, 3) := by decide +kernel
theorem dX8_put_22 : decode cX8_put 22 = .ok (.iload_n 3, 1) := by decide +kernel
theorem dX8_put_23 : decode cX8_put 23 = .ok (.iconst 4, 1) := by decide +kernel
theorem dX8_put_24 : decode cX8_put 24 = .ok (.invokestatic 64, 3) := by decide +kernel
theorem dX8_put_27 : decode cX8_put 27 = .ok (.ifCond .eq 15, 3) := by decide +kernel
theorem dX8_put_30 : decode cX8_put 30 = .ok (.iload 4, 2) := by decide +kernel
theorem dX8_put_32 : decode cX8_put 32 = .ok (.invokestatic 112, 3) := by decide +kernel
theorem dX8_put_35 : decode cX8_put 35 = .ok (.ifCond .eq 7, 3) := by decide +kernel
theorem dX8_put_38 : decode cX8_put 38 = .ok (.iconst 1, 1) := by decide +kernel
theorem dX8_put_39 : decode cX8_put 39 = .ok (.goto 4, 3) := by decide +kernel
theorem dX8_put_42 : decode cX8_put 42 = .ok (.iconst 0, 1) := by decide +kernel
theorem dX8_put_43 : decode cX8_put 43 = .ok (.invokestatic 116, 3) := by decide +kernel
theorem dX8_put_46 : decode cX8_put 46 = .ok (.new 120, 3) := by decide +kernel
theorem dX8_put_49 : decode cX8_put 49 = .ok (.dup, 1) := by decide +kernel
theorem dX8_put_50 : decode cX8_put 50 = .ok (.iconst 0, 1) := by decide +kernel
theorem dX8_put_51 : decode cX8_put 51 = .ok (.iload_n 1, 1) := by decide +kernel
theorem dX8_put_52 : decode cX8_put 52 = .ok (.iload 4, 2) := by decide +kernel
theorem dX8_put_54 : decode cX8_put 54 = .ok (.invokespecial 122, 3) := by decide +kernel
theorem dX8_put_57 : decode cX8_put 57 = .ok (.astore 5, 2) := by decide +kernel
theorem dX8_put_59 : decode cX8_put 59 = .ok (.aload 5, 2) := by decide +kernel
theorem dX8_put_61 : decode cX8_put 61 = .ok (.iload_n 2, 1) := by decide +kernel
theorem dX8_put_62 : decode cX8_put 62 = .ok (.putfield 135, 3) := by decide +kernel
theorem dX8_put_65 : decode cX8_put 65 = .ok (.aload 5, 2) := by decide +kernel
theorem dX8_put_67 : decode cX8_put 67 = .ok (.iload_n 3, 1) := by decide +kernel
theorem dX8_put_68 : decode cX8_put 68 = .ok (.putfield 138, 3) := by decide +kernel
theorem dX8_put_71 : decode cX8_put 71 = .ok (.aload_n 0, 1) := by decide +kernel
theorem dX8_put_72 : decode cX8_put 72 = .ok (.aload 5, 2) := by decide +kernel
theorem dX8_put_74 : decode cX8_put 74 = .ok (.invokevirtual 131, 3) := by decide +kernel
theorem dX8_put_77 : decode cX8_put 77 = .ok (.ireturn, 1) := by decide +kernel
theorem dX8_take_0 : decode cX8_take 0 = .ok (.aload_n 0, 1) := by decide +kernel
theorem dX8_take_1 : decode cX8_take 1 = .ok (.getfield 21, 3) := by decide +kernel
theorem dX8_take_4 : decode cX8_take 4 = .ok (.iload_n 1, 1) := by decide +kernel
theorem dX8_take_5 : decode cX8_take 5 = .ok (.invokevirtual 75, 3) := by decide +kernel
theorem dX8_take_8 : decode cX8_take 8 = .ok (.ifCond .eq 14, 3) := by decide +kernel
theorem dX8_take_11 : decode cX8_take 11 = .ok (.iload_n 2, 1) := by decide +kernel
theorem dX8_take_12 : decode cX8_take 12 = .ok (.invokestatic 112, 3) := by decide +kernel
theorem dX8_take_15 : decode cX8_take 15 = .ok (.ifCond .eq 7, 3) := by decide +kernel
theorem dX8_take_18 : decode cX8_take 18 = .ok (.iconst 1, 1) := by decide +kernel
theorem dX8_take_19 : decode cX8_take 19 = .ok (.goto 4, 3) := by decide +kernel
theorem dX8_take_22 : decode cX8_take 22 = .ok (.iconst 0, 1) := by decide +kernel
theorem dX8_take_23 : decode cX8_take 23 = .ok (.invokestatic 116, 3) := by decide +kernel
theorem dX8_take_26 : decode cX8_take 26 = .ok (.aload_n 0, 1) := by decide +kernel
theorem dX8_take_27 : decode cX8_take 27 = .ok (.new 120, 3) := by decide +kernel
theorem dX8_take_30 : decode cX8_take 30 = .ok (.dup, 1) := by decide +kernel
theorem dX8_take_31 : decode cX8_take 31 = .ok (.iconst 1, 1) := by decide +kernel
theorem dX8_take_32 : decode cX8_take 32 = .ok (.iload_n 1, 1) := by decide +kernel
theorem dX8_take_33 : decode cX8_take 33 = .ok (.iload_n 2, 1) := by decide +kernel
theorem dX8_take_34 : decode cX8_take 34 = .ok (.invokespecial 122, 3) := by decide +kernel
theorem dX8_take_37 : decode cX8_take 37 = .ok (.invokevirtual 131, 3) := by decide +kernel
theorem dX8_take_40 : decode cX8_take 40 = .ok (.ireturn, 1) := by decide +kernel
theorem dX8_done_0 : decode cX8_done 0 = .ok (.aload_n 0, 1) := by decide +kernel
theorem dX8_done_1 : decode cX8_done 1 = .ok (.getfield 21, 3) := by decide +kernel
theorem dX8_done_4 : decode cX8_done 4 = .ok (.iload_n 1, 1) := by decide +kernel
theorem dX8_done_5 : decode cX8_done 5 = .ok (.invokevirtual 75, 3) := by decide +kernel
theorem dX8_done_8 : decode cX8_done 8 = .ok (.ifCond .eq 25, 3) := by decide +kernel
theorem dX8_done_11 : decode cX8_done 11 = .ok (.aload_n 0, 1) := by decide +kernel
theorem dX8_done_12 : decode cX8_done 12 = .ok (.getfield 28, 3) := by decide +kernel
theorem dX8_done_15 : decode cX8_done 15 = .ok (.iload_n 2, 1) := by decide +kernel
theorem dX8_done_16 : decode cX8_done 16 = .ok (.invokevirtual 93, 3) := by decide +kernel
theorem dX8_done_19 : decode cX8_done 19 = .ok (.ifCond .eq 14, 3) := by decide +kernel
theorem dX8_done_22 : decode cX8_done 22 = .ok (.iload_n 3, 1) := by decide +kernel
theorem dX8_done_23 : decode cX8_done 23 = .ok (.invokestatic 112, 3) := by decide +kernel
theorem dX8_done_26 : decode cX8_done 26 = .ok (.ifCond .eq 7, 3) := by decide +kernel
theorem dX8_done_29 : decode cX8_done 29 = .ok (.iconst 1, 1) := by decide +kernel
theorem dX8_done_30 : decode cX8_done 30 = .ok (.goto 4, 3) := by decide +kernel
theorem dX8_done_33 : decode cX8_done 33 = .ok (.iconst 0, 1) := by decide +kernel
theorem dX8_done_34 : decode cX8_done 34 = .ok (.invokestatic 116, 3) := by decide +kernel
theorem dX8_done_37 : decode cX8_done 37 = .ok (.new 120, 3) := by decide +kernel
theorem dX8_done_40 : decode cX8_done 40 = .ok (.dup, 1) := by decide +kernel
theorem dX8_done_41 : decode cX8_done 41 = .ok (.iconst 3, 1) := by decide +kernel
theorem dX8_done_42 : decode cX8_done 42 = .ok (.iload_n 1, 1) := by decide +kernel
theorem dX8_done_43 : decode cX8_done 43 = .ok (.iload_n 3, 1) := by decide +kernel
theorem dX8_done_44 : decode cX8_done 44 = .ok (.invokespecial 122, 3) := by decide +kernel
theorem dX8_done_47 : decode cX8_done 47 = .ok (.astore 4, 2) := by decide +kernel
theorem dX8_done_49 : decode cX8_done 49 = .ok (.aload 4, 2) := by decide +kernel
theorem dX8_done_51 : decode cX8_done 51 = .ok (.iload_n 2, 1) := by decide +kernel
theorem dX8_done_52 : decode cX8_done 52 = .ok (.putfield 135, 3) := by decide +kernel
theorem dX8_done_55 : decode cX8_done 55 = .ok (.aload_n 0, 1) := by decide +kernel
theorem dX8_done_56 : decode cX8_done 56 = .ok (.aload 4, 2) := by decide +kernel
theorem dX8_done_58 : decode cX8_done 58 = .ok (.invokevirtual 131, 3) := by decide +kernel
theorem dX8_done_61 : decode cX8_done 61 = .ok (.ireturn, 1) := by decide +kernel
theorem dX8_concede_0 : decode cX8_concede 0 = .ok (.aload_n 0, 1) := by decide +kernel
theorem dX8_concede_1 : decode cX8_concede 1 = .ok (.getfield 21, 3) := by decide +kernel
theorem dX8_concede_4 : decode cX8_concede 4 = .ok (.iload_n 1, 1) := by decide +kernel
theorem dX8_concede_5 : decode cX8_concede 5 = .ok (.invokevirtual 75, 3) := by decide +kernel
theorem dX8_concede_8 : decode cX8_concede 8 = .ok (.ifCond .eq 56, 3) := by decide +kernel
theorem dX8_concede_11 : decode cX8_concede 11 = .ok (.aload_n 0, 1) := by decide +kernel
theorem dX8_concede_12 : decode cX8_concede 12 = .ok (.getfield 28, 3) := by decide +kernel
theorem dX8_concede_15 : decode cX8_concede 15 = .ok (.iload_n 2, 1) := by decide +kernel
theorem dX8_concede_16 : decode cX8_concede 16 = .ok (.invokevirtual 93, 3) := by decide +kernel
theorem dX8_concede_19 : decode cX8_concede 19 = .ok (.ifCond .eq 45, 3) := by decide +kernel
theorem dX8_concede_22 : decode cX8_concede 22 = .ok (.iload_n 3, 1) := by decide +kernel
theorem dX8_concede_23 : decode cX8_concede 23 = .ok (.invokestatic 112, 3) := by decide +kernel
theorem dX8_concede_26 : decode cX8_concede 26 = .ok (.ifCond .eq 38, 3) := by decide +kernel
theorem dX8_concede_29 : decode cX8_concede 29 = .ok (.iload 4, 2) := by decide +kernel
theorem dX8_concede_31 : decode cX8_concede 31 = .ok (.sipush 10000, 3) := by decide +kernel
theorem dX8_concede_34 : decode cX8_concede 34 = .ok (.invokestatic 83, 3) := by decide +kernel
theorem dX8_concede_37 : decode cX8_concede 37 = .ok (.ifCond .eq 27, 3) := by decide +kernel
theorem dX8_concede_40 : decode cX8_concede 40 = .ok (.iload 5, 2) := by decide +kernel
theorem dX8_concede_42 : decode cX8_concede 42 = .ok (.ifCond .lt 22, 3) := by decide +kernel
theorem dX8_concede_45 : decode cX8_concede 45 = .ok (.iload 5, 2) := by decide +kernel
theorem dX8_concede_47 : decode cX8_concede 47 = .ok (.sipush 10001, 3) := by decide +kernel
theorem dX8_concede_50 : decode cX8_concede 50 = .ok (.idiv, 1) := by decide +kernel
theorem dX8_concede_51 : decode cX8_concede 51 = .ok (.sipush 10000, 3) := by decide +kernel
theorem dX8_concede_54 : decode cX8_concede 54 = .ok (.invokestatic 83, 3) := by decide +kernel
theorem dX8_concede_57 : decode cX8_concede 57 = .ok (.ifCond .eq 7, 3) := by decide +kernel
theorem dX8_concede_60 : decode cX8_concede 60 = .ok (.iconst 1, 1) := by decide +kernel
theorem dX8_concede_61 : decode cX8_concede 61 = .ok (.goto 4, 3) := by decide +kernel
theorem dX8_concede_64 : decode cX8_concede 64 = .ok (.iconst 0, 1) := by decide +kernel
theorem dX8_concede_65 : decode cX8_concede 65 = .ok (.invokestatic 116, 3) := by decide +kernel
theorem dX8_concede_68 : decode cX8_concede 68 = .ok (.new 120, 3) := by decide +kernel
theorem dX8_concede_71 : decode cX8_concede 71 = .ok (.dup, 1) := by decide +kernel
theorem dX8_concede_72 : decode cX8_concede 72 = .ok (.iconst 4, 1) := by decide +kernel
theorem dX8_concede_73 : decode cX8_concede 73 = .ok (.iload_n 1, 1) := by decide +kernel
theorem dX8_concede_74 : decode cX8_concede 74 = .ok (.iload_n 3, 1) := by decide +kernel
theorem dX8_concede_75 : decode cX8_concede 75 = .ok (.invokespecial 122, 3) := by decide +kernel
theorem dX8_concede_78 : decode cX8_concede 78 = .ok (.astore 6, 2) := by decide +kernel
theorem dX8_concede_80 : decode cX8_concede 80 = .ok (.aload 6, 2) := by decide +kernel
theorem dX8_concede_82 : decode cX8_concede 82 = .ok (.iload_n 2, 1) := by decide +kernel
theorem dX8_concede_83 : decode cX8_concede 83 = .ok (.putfield 135, 3) := by decide +kernel
theorem dX8_concede_86 : decode cX8_concede 86 = .ok (.aload 6, 2) := by decide +kernel
theorem dX8_concede_88 : decode cX8_concede 88 = .ok (.iload 4, 2) := by decide +kernel
theorem dX8_concede_90 : decode cX8_concede 90 = .ok (.putfield 125, 3) := by decide +kernel
theorem dX8_concede_93 : decode cX8_concede 93 = .ok (.aload 6, 2) := by decide +kernel
theorem dX8_concede_95 : decode cX8_concede 95 = .ok (.iload 5, 2) := by decide +kernel
theorem dX8_concede_97 : decode cX8_concede 97 = .ok (.sipush 10001, 3) := by decide +kernel
theorem dX8_concede_100 : decode cX8_concede 100 = .ok (.idiv, 1) := by decide +kernel
theorem dX8_concede_101 : decode cX8_concede 101 = .ok (.putfield 128, 3) := by decide +kernel
theorem dX8_concede_104 : decode cX8_concede 104 = .ok (.aload 6, 2) := by decide +kernel
theorem dX8_concede_106 : decode cX8_concede 106 = .ok (.iload 5, 2) := by decide +kernel
theorem dX8_concede_108 : decode cX8_concede 108 = .ok (.sipush 10001, 3) := by decide +kernel
theorem dX8_concede_111 : decode cX8_concede 111 = .ok (.irem, 1) := by decide +kernel
theorem dX8_concede_112 : decode cX8_concede 112 = .ok (.putfield 141, 3) := by decide +kernel
theorem dX8_concede_115 : decode cX8_concede 115 = .ok (.aload_n 0, 1) := by decide +kernel
theorem dX8_concede_116 : decode cX8_concede 116 = .ok (.aload 6, 2) := by decide +kernel
theorem dX8_concede_118 : decode cX8_concede 118 = .ok (.invokevirtual 131, 3) := by decide +kernel
theorem dX8_concede_121 : decode cX8_concede 121 = .ok (.ireturn, 1) := by decide +kernel
theorem dX8_rebuild_0 : decode cX8_rebuild 0 = .ok (.aload_n 0, 1) := by decide +kernel
theorem dX8_rebuild_1 : decode cX8_rebuild 1 = .ok (.getfield 21, 3) := by decide +kernel
theorem dX8_rebuild_4 : decode cX8_rebuild 4 = .ok (.iload_n 1, 1) := by decide +kernel
theorem dX8_rebuild_5 : decode cX8_rebuild 5 = .ok (.invokevirtual 75, 3) := by decide +kernel
theorem dX8_rebuild_8 : decode cX8_rebuild 8 = .ok (.ifCond .eq 25, 3) := by decide +kernel
theorem dX8_rebuild_11 : decode cX8_rebuild 11 = .ok (.aload_n 0, 1) := by decide +kernel
theorem dX8_rebuild_12 : decode cX8_rebuild 12 = .ok (.getfield 35, 3) := by decide +kernel
theorem dX8_rebuild_15 : decode cX8_rebuild 15 = .ok (.iload_n 2, 1) := by decide +kernel
theorem dX8_rebuild_16 : decode cX8_rebuild 16 = .ok (.invokevirtual 144, 3) := by decide +kernel
theorem dX8_rebuild_19 : decode cX8_rebuild 19 = .ok (.ifCond .eq 14, 3) := by decide +kernel
theorem dX8_rebuild_22 : decode cX8_rebuild 22 = .ok (.iload_n 3, 1) := by decide +kernel
theorem dX8_rebuild_23 : decode cX8_rebuild 23 = .ok (.invokestatic 112, 3) := by decide +kernel
theorem dX8_rebuild_26 : decode cX8_rebuild 26 = .ok (.ifCond .eq 7, 3) := by decide +kernel
theorem dX8_rebuild_29 : decode cX8_rebuild 29 = .ok (.iconst 1, 1) := by decide +kernel
theorem dX8_rebuild_30 : decode cX8_rebuild 30 = .ok (.goto 4, 3) := by decide +kernel
theorem dX8_rebuild_33 : decode cX8_rebuild 33 = .ok (.iconst 0, 1) := by decide +kernel
theorem dX8_rebuild_34 : decode cX8_rebuild 34 = .ok (.invokestatic 116, 3) := by decide +kernel
theorem dX8_rebuild_37 : decode cX8_rebuild 37 = .ok (.new 120, 3) := by decide +kernel
theorem dX8_rebuild_40 : decode cX8_rebuild 40 = .ok (.dup, 1) := by decide +kernel
theorem dX8_rebuild_41 : decode cX8_rebuild 41 = .ok (.iconst 5, 1) := by decide +kernel
theorem dX8_rebuild_42 : decode cX8_rebuild 42 = .ok (.iload_n 1, 1) := by decide +kernel
theorem dX8_rebuild_43 : decode cX8_rebuild 43 = .ok (.iload_n 3, 1) := by decide +kernel
theorem dX8_rebuild_44 : decode cX8_rebuild 44 = .ok (.invokespecial 122, 3) := by decide +kernel
theorem dX8_rebuild_47 : decode cX8_rebuild 47 = .ok (.astore 4, 2) := by decide +kernel
theorem dX8_rebuild_49 : decode cX8_rebuild 49 = .ok (.aload 4, 2) := by decide +kernel
theorem dX8_rebuild_51 : decode cX8_rebuild 51 = .ok (.iload_n 2, 1) := by decide +kernel
theorem dX8_rebuild_52 : decode cX8_rebuild 52 = .ok (.putfield 135, 3) := by decide +kernel
theorem dX8_rebuild_55 : decode cX8_rebuild 55 = .ok (.aload_n 0, 1) := by decide +kernel
theorem dX8_rebuild_56 : decode cX8_rebuild 56 = .ok (.aload 4, 2) := by decide +kernel
theorem dX8_rebuild_58 : decode cX8_rebuild 58 = .ok (.invokevirtual 131, 3) := by decide +kernel
theorem dX8_rebuild_61 : decode cX8_rebuild 61 = .ok (.ireturn, 1) := by decide +kernel
theorem dX8_strike_0 : decode cX8_strike 0 = .ok (.aload_n 0, 1) := by decide +kernel
theorem dX8_strike_1 : decode cX8_strike 1 = .ok (.getfield 44, 3) := by decide +kernel
theorem dX8_strike_4 : decode cX8_strike 4 = .ok (.iload_n 1, 1) := by decide +kernel
theorem dX8_strike_5 : decode cX8_strike 5 = .ok (.invokevirtual 145, 3) := by decide +kernel
theorem dX8_strike_8 : decode cX8_strike 8 = .ok (.invokestatic 116, 3) := by decide +kernel
theorem dX8_strike_11 : decode cX8_strike 11 = .ok (.aload_n 0, 1) := by decide +kernel
theorem dX8_strike_12 : decode cX8_strike 12 = .ok (.getfield 44, 3) := by decide +kernel
theorem dX8_strike_15 : decode cX8_strike 15 = .ok (.iload_n 1, 1) := by decide +kernel
theorem dX8_strike_16 : decode cX8_strike 16 = .ok (.invokevirtual 148, 3) := by decide +kernel
theorem dX8_strike_19 : decode cX8_strike 19 = .ok (.ifCond .ne 13, 3) := by decide +kernel
theorem dX8_strike_22 : decode cX8_strike 22 = .ok (.new 151, 3) := by decide +kernel
theorem dX8_strike_25 : decode cX8_strike 25 = .ok (.dup, 1) := by decide +kernel
theorem dX8_strike_26 : decode cX8_strike 26 = .ok (.ldc 153, 2) := by decide +kernel
theorem dX8_strike_28 : decode cX8_strike 28 = .ok (.invokespecial 155, 3) := by decide +kernel
theorem dX8_strike_31 : decode cX8_strike 31 = .ok (.athrow, 1) := by decide +kernel
theorem dX8_strike_32 : decode cX8_strike 32 = .ok (.aload_n 0, 1) := by decide +kernel
theorem dX8_strike_33 : decode cX8_strike 33 = .ok (.getfield 56, 3) := by decide +kernel
theorem dX8_strike_36 : decode cX8_strike 36 = .ok (.invokevirtual 90, 3) := by decide +kernel
theorem dX8_strike_39 : decode cX8_strike 39 = .ok (.return_, 1) := by decide +kernel
theorem dX8_count_0 : decode cX8_count 0 = .ok (.iload_n 1, 1) := by decide +kernel
theorem dX8_count_1 : decode cX8_count 1 = .ok (.tableswitch 51 0 2 #[27, 35, 43], 27) := by decide +kernel
theorem dX8_count_28 : decode cX8_count 28 = .ok (.aload_n 0, 1) := by decide +kernel
theorem dX8_count_29 : decode cX8_count 29 = .ok (.getfield 44, 3) := by decide +kernel
theorem dX8_count_32 : decode cX8_count 32 = .ok (.getfield 158, 3) := by decide +kernel
theorem dX8_count_35 : decode cX8_count 35 = .ok (.ireturn, 1) := by decide +kernel
theorem dX8_count_36 : decode cX8_count 36 = .ok (.aload_n 0, 1) := by decide +kernel
theorem dX8_count_37 : decode cX8_count 37 = .ok (.getfield 44, 3) := by decide +kernel
theorem dX8_count_40 : decode cX8_count 40 = .ok (.getfield 161, 3) := by decide +kernel
theorem dX8_count_43 : decode cX8_count 43 = .ok (.ireturn, 1) := by decide +kernel
theorem dX8_count_44 : decode cX8_count 44 = .ok (.aload_n 0, 1) := by decide +kernel
theorem dX8_count_45 : decode cX8_count 45 = .ok (.getfield 21, 3) := by decide +kernel
theorem dX8_count_48 : decode cX8_count 48 = .ok (.getfield 68, 3) := by decide +kernel
theorem dX8_count_51 : decode cX8_count 51 = .ok (.ireturn, 1) := by decide +kernel
theorem dX8_count_52 : decode cX8_count 52 = .ok (.iconst (-1), 1) := by decide +kernel
theorem dX8_count_53 : decode cX8_count 53 = .ok (.ireturn, 1) := by decide +kernel
theorem dX8_where_0 : decode cX8_where 0 = .ok (.aload_n 0, 1) := by decide +kernel
theorem dX8_where_1 : decode cX8_where 1 = .ok (.getfield 21, 3) := by decide +kernel
theorem dX8_where_4 : decode cX8_where 4 = .ok (.iload_n 1, 1) := by decide +kernel
theorem dX8_where_5 : decode cX8_where 5 = .ok (.invokevirtual 75, 3) := by decide +kernel
theorem dX8_where_8 : decode cX8_where 8 = .ok (.ifCond .eq 10, 3) := by decide +kernel
theorem dX8_where_11 : decode cX8_where 11 = .ok (.iload_n 2, 1) := by decide +kernel
theorem dX8_where_12 : decode cX8_where 12 = .ok (.invokestatic 112, 3) := by decide +kernel
theorem dX8_where_15 : decode cX8_where 15 = .ok (.ifCond .ne 5, 3) := by decide +kernel
theorem dX8_where_18 : decode cX8_where 18 = .ok (.iconst (-1), 1) := by decide +kernel
theorem dX8_where_19 : decode cX8_where 19 = .ok (.ireturn, 1) := by decide +kernel
theorem dX8_where_20 : decode cX8_where 20 = .ok (.aload_n 0, 1) := by decide +kernel
theorem dX8_where_21 : decode cX8_where 21 = .ok (.getfield 56, 3) := by decide +kernel
theorem dX8_where_24 : decode cX8_where 24 = .ok (.iload_n 2, 1) := by decide +kernel
theorem dX8_where_25 : decode cX8_where 25 = .ok (.invokevirtual 164, 3) := by decide +kernel
theorem dX8_where_28 : decode cX8_where 28 = .ok (.iload_n 3, 1) := by decide +kernel
theorem dX8_where_29 : decode cX8_where 29 = .ok (.tableswitch 75 0 3 #[31, 44, 57, 63], 31) := by decide +kernel
theorem dX8_where_60 : decode cX8_where 60 = .ok (.aload_n 0, 1) := by decide +kernel
theorem dX8_where_61 : decode cX8_where 61 = .ok (.getfield 56, 3) := by decide +kernel
theorem dX8_where_64 : decode cX8_where 64 = .ok (.getfield 168, 3) := by decide +kernel
theorem dX8_where_67 : decode cX8_where 67 = .ok (.getfield 172, 3) := by decide +kernel
theorem dX8_where_70 : decode cX8_where 70 = .ok (.iload_n 1, 1) := by decide +kernel
theorem dX8_where_71 : decode cX8_where 71 = .ok (.iaload, 1) := by decide +kernel
theorem dX8_where_72 : decode cX8_where 72 = .ok (.ireturn, 1) := by decide +kernel
theorem dX8_where_73 : decode cX8_where 73 = .ok (.aload_n 0, 1) := by decide +kernel
theorem dX8_where_74 : decode cX8_where 74 = .ok (.getfield 56, 3) := by decide +kernel
theorem dX8_where_77 : decode cX8_where 77 = .ok (.getfield 168, 3) := by decide +kernel
theorem dX8_where_80 : decode cX8_where 80 = .ok (.getfield 175, 3) := by decide +kernel
theorem dX8_where_83 : decode cX8_where 83 = .ok (.iload_n 1, 1) := by decide +kernel
theorem dX8_where_84 : decode cX8_where 84 = .ok (.iaload, 1) := by decide +kernel
theorem dX8_where_85 : decode cX8_where 85 = .ok (.ireturn, 1) := by decide +kernel
theorem dX8_where_86 : decode cX8_where 86 = .ok (.aload_n 0, 1) := by decide +kernel
theorem dX8_where_87 : decode cX8_where 87 = .ok (.iload_n 1, 1) := by decide +kernel
theorem dX8_where_88 : decode cX8_where 88 = .ok (.invokevirtual 177, 3) := by decide +kernel
theorem dX8_where_91 : decode cX8_where 91 = .ok (.ireturn, 1) := by decide +kernel
theorem dX8_where_92 : decode cX8_where 92 = .ok (.aload_n 0, 1) := by decide +kernel
theorem dX8_where_93 : decode cX8_where 93 = .ok (.getfield 56, 3) := by decide +kernel
theorem dX8_where_96 : decode cX8_where 96 = .ok (.getfield 168, 3) := by decide +kernel
theorem dX8_where_99 : decode cX8_where 99 = .ok (.iload_n 1, 1) := by decide +kernel
theorem dX8_where_100 : decode cX8_where 100 = .ok (.invokevirtual 181, 3) := by decide +kernel
theorem dX8_where_103 : decode cX8_where 103 = .ok (.ireturn, 1) := by decide +kernel
theorem dX8_where_104 : decode cX8_where 104 = .ok (.iconst (-1), 1) := by decide +kernel
theorem dX8_where_105 : decode cX8_where 105 = .ok (.ireturn, 1) := by decide +kernel
theorem dX8_at_0 : decode cX8_at 0 = .ok (.aload_n 0, 1) := by decide +kernel
theorem dX8_at_1 : decode cX8_at 1 = .ok (.getfield 21, 3) := by decide +kernel
theorem dX8_at_4 : decode cX8_at 4 = .ok (.iload_n 1, 1) := by decide +kernel
theorem dX8_at_5 : decode cX8_at 5 = .ok (.invokevirtual 75, 3) := by decide +kernel
theorem dX8_at_8 : decode cX8_at 8 = .ok (.ifCond .eq 18, 3) := by decide +kernel
theorem dX8_at_11 : decode cX8_at 11 = .ok (.iload_n 2, 1) := by decide +kernel
theorem dX8_at_12 : decode cX8_at 12 = .ok (.iconst 4, 1) := by decide +kernel
theorem dX8_at_13 : decode cX8_at 13 = .ok (.invokestatic 64, 3) := by decide +kernel
theorem dX8_at_16 : decode cX8_at 16 = .ok (.ifCond .eq 10, 3) := by decide +kernel
theorem dX8_at_19 : decode cX8_at 19 = .ok (.iload_n 3, 1) := by decide +kernel
theorem dX8_at_20 : decode cX8_at 20 = .ok (.invokestatic 112, 3) := by decide +kernel
theorem dX8_at_23 : decode cX8_at 23 = .ok (.ifCond .ne 5, 3) := by decide +kernel
theorem dX8_at_26 : decode cX8_at 26 = .ok (.iconst (-1), 1) := by decide +kernel
theorem dX8_at_27 : decode cX8_at 27 = .ok (.ireturn, 1) := by decide +kernel
theorem dX8_at_28 : decode cX8_at 28 = .ok (.aload_n 0, 1) := by decide +kernel
theorem dX8_at_29 : decode cX8_at 29 = .ok (.getfield 56, 3) := by decide +kernel
theorem dX8_at_32 : decode cX8_at 32 = .ok (.iload_n 3, 1) := by decide +kernel
theorem dX8_at_33 : decode cX8_at 33 = .ok (.invokevirtual 164, 3) := by decide +kernel
theorem dX8_at_36 : decode cX8_at 36 = .ok (.aload_n 0, 1) := by decide +kernel
theorem dX8_at_37 : decode cX8_at 37 = .ok (.getfield 56, 3) := by decide +kernel
theorem dX8_at_40 : decode cX8_at 40 = .ok (.getfield 168, 3) := by decide +kernel
theorem dX8_at_43 : decode cX8_at 43 = .ok (.getfield 184, 3) := by decide +kernel
theorem dX8_at_46 : decode cX8_at 46 = .ok (.iload_n 1, 1) := by decide +kernel
theorem dX8_at_47 : decode cX8_at 47 = .ok (.iconst 4, 1) := by decide +kernel
theorem dX8_at_48 : decode cX8_at 48 = .ok (.imul, 1) := by decide +kernel
theorem dX8_at_49 : decode cX8_at 49 = .ok (.iload_n 2, 1) := by decide +kernel
theorem dX8_at_50 : decode cX8_at 50 = .ok (.iadd, 1) := by decide +kernel
theorem dX8_at_51 : decode cX8_at 51 = .ok (.iaload, 1) := by decide +kernel
theorem dX8_at_52 : decode cX8_at 52 = .ok (.ireturn, 1) := by decide +kernel
theorem dX8_counter_0 : decode cX8_counter 0 = .ok (.aload_n 0, 1) := by decide +kernel
theorem dX8_counter_1 : decode cX8_counter 1 = .ok (.getfield 21, 3) := by decide +kernel
theorem dX8_counter_4 : decode cX8_counter 4 = .ok (.iload_n 1, 1) := by decide +kernel
theorem dX8_counter_5 : decode cX8_counter 5 = .ok (.invokevirtual 75, 3) := by decide +kernel
theorem dX8_counter_8 : decode cX8_counter 8 = .ok (.ifCond .eq 18, 3) := by decide +kernel
theorem dX8_counter_11 : decode cX8_counter 11 = .ok (.iload_n 2, 1) := by decide +kernel
theorem dX8_counter_12 : decode cX8_counter 12 = .ok (.iconst 3, 1) := by decide +kernel
theorem dX8_counter_13 : decode cX8_counter 13 = .ok (.invokestatic 64, 3) := by decide +kernel
theorem dX8_counter_16 : decode cX8_counter 16 = .ok (.ifCond .eq 10, 3) := by decide +kernel
theorem dX8_counter_19 : decode cX8_counter 19 = .ok (.iload_n 3, 1) := by decide +kernel
theorem dX8_counter_20 : decode cX8_counter 20 = .ok (.invokestatic 79, 3) := by decide +kernel
theorem dX8_counter_23 : decode cX8_counter 23 = .ok (.ifCond .ne 5, 3) := by decide +kernel
theorem dX8_counter_26 : decode cX8_counter 26 = .ok (.iconst 0, 1) := by decide +kernel
theorem dX8_counter_27 : decode cX8_counter 27 = .ok (.ireturn, 1) := by decide +kernel
theorem dX8_counter_28 : decode cX8_counter 28 = .ok (.aload_n 0, 1) := by decide +kernel
theorem dX8_counter_29 : decode cX8_counter 29 = .ok (.getfield 56, 3) := by decide +kernel
theorem dX8_counter_32 : decode cX8_counter 32 = .ok (.iload_n 3, 1) := by decide +kernel
theorem dX8_counter_33 : decode cX8_counter 33 = .ok (.invokestatic 187, 3) := by decide +kernel
theorem dX8_counter_36 : decode cX8_counter 36 = .ok (.invokevirtual 164, 3) := by decide +kernel
theorem dX8_counter_39 : decode cX8_counter 39 = .ok (.aload_n 0, 1) := by decide +kernel
theorem dX8_counter_40 : decode cX8_counter 40 = .ok (.getfield 56, 3) := by decide +kernel
theorem dX8_counter_43 : decode cX8_counter 43 = .ok (.iload_n 1, 1) := by decide +kernel
theorem dX8_counter_44 : decode cX8_counter 44 = .ok (.iload_n 2, 1) := by decide +kernel
theorem dX8_counter_45 : decode cX8_counter 45 = .ok (.iload_n 3, 1) := by decide +kernel
theorem dX8_counter_46 : decode cX8_counter 46 = .ok (.invokevirtual 190, 3) := by decide +kernel
theorem dX8_counter_49 : decode cX8_counter 49 = .ok (.ireturn, 1) := by decide +kernel
theorem dX8_due_0 : decode cX8_due 0 = .ok (.aload_n 0, 1) := by decide +kernel
theorem dX8_due_1 : decode cX8_due 1 = .ok (.getfield 21, 3) := by decide +kernel
theorem dX8_due_4 : decode cX8_due 4 = .ok (.iload_n 1, 1) := by decide +kernel
theorem dX8_due_5 : decode cX8_due 5 = .ok (.invokevirtual 75, 3) := by decide +kernel
theorem dX8_due_8 : decode cX8_due 8 = .ok (.ifCond .eq 44, 3) := by decide +kernel
theorem dX8_due_11 : decode cX8_due 11 = .ok (.aload_n 0, 1) := by decide +kernel
theorem dX8_due_12 : decode cX8_due 12 = .ok (.getfield 28, 3) := by decide +kernel
theorem dX8_due_15 : decode cX8_due 15 = .ok (.iload_n 2, 1) := by decide +kernel
theorem dX8_due_16 : decode cX8_due 16 = .ok (.invokevirtual 93, 3) := by decide +kernel
theorem dX8_due_19 : decode cX8_due 19 = .ok (.ifCond .eq 33, 3) := by decide +kernel
theorem dX8_due_22 : decode cX8_due 22 = .ok (.iload_n 3, 1) := by decide +kernel
theorem dX8_due_23 : decode cX8_due 23 = .ok (.iconst 3, 1) := by decide +kernel
theorem dX8_due_24 : decode cX8_due 24 = .ok (.invokestatic 64, 3) := by decide +kernel
theorem dX8_due_27 : decode cX8_due 27 = .ok (.ifCond .eq 25, 3) := by decide +kernel
theorem dX8_due_30 : decode cX8_due 30 = .ok (.iload 4, 2) := by decide +kernel
theorem dX8_due_32 : decode cX8_due 32 = .ok (.invokestatic 79, 3) := by decide +kernel
theorem dX8_due_35 : decode cX8_due 35 = .ok (.ifCond .eq 17, 3) := by decide +kernel
theorem dX8_due_38 : decode cX8_due 38 = .ok (.aload_n 0, 1) := by decide +kernel
theorem dX8_due_39 : decode cX8_due 39 = .ok (.getfield 28, 3) := by decide +kernel
theorem dX8_due_42 : decode cX8_due 42 = .ok (.getfield 194, 3) := by decide +kernel
theorem dX8_due_45 : decode cX8_due 45 = .ok (.iload_n 3, 1) := by decide +kernel
theorem dX8_due_46 : decode cX8_due 46 = .ok (.aaload, 1) := by decide +kernel
theorem dX8_due_47 : decode cX8_due 47 = .ok (.iload_n 2, 1) := by decide +kernel
theorem dX8_due_48 : decode cX8_due 48 = .ok (.iaload, 1) := by decide +kernel
theorem dX8_due_49 : decode cX8_due 49 = .ok (.ifCond .ne 5, 3) := by decide +kernel
theorem dX8_due_52 : decode cX8_due 52 = .ok (.iconst (-1), 1) := by decide +kernel
theorem dX8_due_53 : decode cX8_due 53 = .ok (.ireturn, 1) := by decide +kernel
theorem dX8_due_54 : decode cX8_due 54 = .ok (.aload_n 0, 1) := by decide +kernel
theorem dX8_due_55 : decode cX8_due 55 = .ok (.getfield 56, 3) := by decide +kernel
theorem dX8_due_58 : decode cX8_due 58 = .ok (.iload 4, 2) := by decide +kernel
theorem dX8_due_60 : decode cX8_due 60 = .ok (.invokestatic 187, 3) := by decide +kernel
theorem dX8_due_63 : decode cX8_due 63 = .ok (.invokevirtual 164, 3) := by decide +kernel
theorem dX8_due_66 : decode cX8_due 66 = .ok (.aload_n 0, 1) := by decide +kernel
theorem dX8_due_67 : decode cX8_due 67 = .ok (.getfield 56, 3) := by decide +kernel
theorem dX8_due_70 : decode cX8_due 70 = .ok (.getfield 197, 3) := by decide +kernel
theorem dX8_due_73 : decode cX8_due 73 = .ok (.iload_n 3, 1) := by decide +kernel
theorem dX8_due_74 : decode cX8_due 74 = .ok (.aaload, 1) := by decide +kernel
theorem dX8_due_75 : decode cX8_due 75 = .ok (.iload_n 1, 1) := by decide +kernel
theorem dX8_due_76 : decode cX8_due 76 = .ok (.bipush 16, 2) := by decide +kernel
theorem dX8_due_78 : decode cX8_due 78 = .ok (.imul, 1) := by decide +kernel
theorem dX8_due_79 : decode cX8_due 79 = .ok (.iload_n 2, 1) := by decide +kernel
theorem dX8_due_80 : decode cX8_due 80 = .ok (.iadd, 1) := by decide +kernel
theorem dX8_due_81 : decode cX8_due 81 = .ok (.iaload, 1) := by decide +kernel
theorem dX8_due_82 : decode cX8_due 82 = .ok (.ireturn, 1) := by decide +kernel
theorem dX8_asked_0 : decode cX8_asked 0 = .ok (.aload_n 0, 1) := by decide +kernel
theorem dX8_asked_1 : decode cX8_asked 1 = .ok (.getfield 21, 3) := by decide +kernel
theorem dX8_asked_4 : decode cX8_asked 4 = .ok (.iload_n 1, 1) := by decide +kernel
theorem dX8_asked_5 : decode cX8_asked 5 = .ok (.invokevirtual 75, 3) := by decide +kernel
theorem dX8_asked_8 : decode cX8_asked 8 = .ok (.ifCond .eq 21, 3) := by decide +kernel
theorem dX8_asked_11 : decode cX8_asked 11 = .ok (.aload_n 0, 1) := by decide +kernel
theorem dX8_asked_12 : decode cX8_asked 12 = .ok (.getfield 28, 3) := by decide +kernel
theorem dX8_asked_15 : decode cX8_asked 15 = .ok (.iload_n 2, 1) := by decide +kernel
theorem dX8_asked_16 : decode cX8_asked 16 = .ok (.invokevirtual 93, 3) := by decide +kernel
theorem dX8_asked_19 : decode cX8_asked 19 = .ok (.ifCond .eq 10, 3) := by decide +kernel
theorem dX8_asked_22 : decode cX8_asked 22 = .ok (.iload_n 3, 1) := by decide +kernel
theorem dX8_asked_23 : decode cX8_asked 23 = .ok (.invokestatic 79, 3) := by decide +kernel
theorem dX8_asked_26 : decode cX8_asked 26 = .ok (.ifCond .ne 5, 3) := by decide +kernel
theorem dX8_asked_29 : decode cX8_asked 29 = .ok (.iconst 0, 1) := by decide +kernel
theorem dX8_asked_30 : decode cX8_asked 30 = .ok (.ireturn, 1) := by decide +kernel
theorem dX8_asked_31 : decode cX8_asked 31 = .ok (.aload_n 0, 1) := by decide +kernel
theorem dX8_asked_32 : decode cX8_asked 32 = .ok (.getfield 56, 3) := by decide +kernel
theorem dX8_asked_35 : decode cX8_asked 35 = .ok (.iload_n 3, 1) := by decide +kernel
theorem dX8_asked_36 : decode cX8_asked 36 = .ok (.invokestatic 187, 3) := by decide +kernel
theorem dX8_asked_39 : decode cX8_asked 39 = .ok (.invokevirtual 164, 3) := by decide +kernel
theorem dX8_asked_42 : decode cX8_asked 42 = .ok (.aload_n 0, 1) := by decide +kernel
theorem dX8_asked_43 : decode cX8_asked 43 = .ok (.getfield 56, 3) := by decide +kernel
theorem dX8_asked_46 : decode cX8_asked 46 = .ok (.iload_n 1, 1) := by decide +kernel
theorem dX8_asked_47 : decode cX8_asked 47 = .ok (.iload_n 2, 1) := by decide +kernel
theorem dX8_asked_48 : decode cX8_asked 48 = .ok (.invokevirtual 200, 3) := by decide +kernel
theorem dX8_asked_51 : decode cX8_asked 51 = .ok (.ifCond .ne 5, 3) := by decide +kernel
theorem dX8_asked_54 : decode cX8_asked 54 = .ok (.iconst 0, 1) := by decide +kernel
theorem dX8_asked_55 : decode cX8_asked 55 = .ok (.ireturn, 1) := by decide +kernel
theorem dX8_asked_56 : decode cX8_asked 56 = .ok (.aload_n 0, 1) := by decide +kernel
theorem dX8_asked_57 : decode cX8_asked 57 = .ok (.getfield 56, 3) := by decide +kernel
theorem dX8_asked_60 : decode cX8_asked 60 = .ok (.iload_n 1, 1) := by decide +kernel
theorem dX8_asked_61 : decode cX8_asked 61 = .ok (.iload_n 2, 1) := by decide +kernel
theorem dX8_asked_62 : decode cX8_asked 62 = .ok (.iload_n 3, 1) := by decide +kernel
theorem dX8_asked_63 : decode cX8_asked 63 = .ok (.invokevirtual 203, 3) := by decide +kernel
theorem dX8_asked_66 : decode cX8_asked 66 = .ok (.ifCond .eq 7, 3) := by decide +kernel
theorem dX8_asked_69 : decode cX8_asked 69 = .ok (.iconst 2, 1) := by decide +kernel
theorem dX8_asked_70 : decode cX8_asked 70 = .ok (.goto 4, 3) := by decide +kernel
theorem dX8_asked_73 : decode cX8_asked 73 = .ok (.iconst 1, 1) := by decide +kernel
theorem dX8_asked_74 : decode cX8_asked 74 = .ok (.ireturn, 1) := by decide +kernel
theorem dX8_open_0 : decode cX8_open 0 = .ok (.aload_n 0, 1) := by decide +kernel
theorem dX8_open_1 : decode cX8_open 1 = .ok (.getfield 21, 3) := by decide +kernel
theorem dX8_open_4 : decode cX8_open 4 = .ok (.iload_n 1, 1) := by decide +kernel
theorem dX8_open_5 : decode cX8_open 5 = .ok (.invokevirtual 109, 3) := by decide +kernel
theorem dX8_open_8 : decode cX8_open 8 = .ok (.ifCond .eq 14, 3) := by decide +kernel
theorem dX8_open_11 : decode cX8_open 11 = .ok (.iload_n 2, 1) := by decide +kernel
theorem dX8_open_12 : decode cX8_open 12 = .ok (.invokestatic 79, 3) := by decide +kernel
theorem dX8_open_15 : decode cX8_open 15 = .ok (.ifCond .eq 7, 3) := by decide +kernel
theorem dX8_open_18 : decode cX8_open 18 = .ok (.iload_n 3, 1) := by decide +kernel
theorem dX8_open_19 : decode cX8_open 19 = .ok (.ifCond .ge 5, 3) := by decide +kernel
theorem dX8_open_22 : decode cX8_open 22 = .ok (.iconst (-1), 1) := by decide +kernel
theorem dX8_open_23 : decode cX8_open 23 = .ok (.ireturn, 1) := by decide +kernel
theorem dX8_open_24 : decode cX8_open 24 = .ok (.aload_n 0, 1) := by decide +kernel
theorem dX8_open_25 : decode cX8_open 25 = .ok (.getfield 56, 3) := by decide +kernel
theorem dX8_open_28 : decode cX8_open 28 = .ok (.iload_n 2, 1) := by decide +kernel
theorem dX8_open_29 : decode cX8_open 29 = .ok (.invokestatic 187, 3) := by decide +kernel
theorem dX8_open_32 : decode cX8_open 32 = .ok (.invokevirtual 164, 3) := by decide +kernel
theorem dX8_open_35 : decode cX8_open 35 = .ok (.iload_n 3, 1) := by decide +kernel
theorem dX8_open_36 : decode cX8_open 36 = .ok (.istore 4, 2) := by decide +kernel
theorem dX8_open_38 : decode cX8_open 38 = .ok (.iconst 0, 1) := by decide +kernel
theorem dX8_open_39 : decode cX8_open 39 = .ok (.istore 5, 2) := by decide +kernel
theorem dX8_open_41 : decode cX8_open 41 = .ok (.iload 5, 2) := by decide +kernel
theorem dX8_open_43 : decode cX8_open 43 = .ok (.bipush 40, 2) := by decide +kernel
theorem dX8_open_45 : decode cX8_open 45 = .ok (.if_icmp .ge 70, 3) := by decide +kernel
theorem dX8_open_48 : decode cX8_open 48 = .ok (.aload_n 0, 1) := by decide +kernel
theorem dX8_open_49 : decode cX8_open 49 = .ok (.iload_n 1, 1) := by decide +kernel
theorem dX8_open_50 : decode cX8_open 50 = .ok (.iload 5, 2) := by decide +kernel
theorem dX8_open_52 : decode cX8_open 52 = .ok (.invokevirtual 207, 3) := by decide +kernel
theorem dX8_open_55 : decode cX8_open 55 = .ok (.ifCond .ne 6, 3) := by decide +kernel
theorem dX8_open_58 : decode cX8_open 58 = .ok (.goto 51, 3) := by decide +kernel
theorem dX8_open_61 : decode cX8_open 61 = .ok (.iconst 0, 1) := by decide +kernel
theorem dX8_open_62 : decode cX8_open 62 = .ok (.istore 6, 2) := by decide +kernel
theorem dX8_open_64 : decode cX8_open 64 = .ok (.iload 6, 2) := by decide +kernel
theorem dX8_open_66 : decode cX8_open 66 = .ok (.bipush 16, 2) := by decide +kernel
theorem dX8_open_68 : decode cX8_open 68 = .ok (.if_icmp .ge 41, 3) := by decide +kernel
theorem dX8_open_71 : decode cX8_open 71 = .ok (.aload_n 0, 1) := by decide +kernel
theorem dX8_open_72 : decode cX8_open 72 = .ok (.getfield 56, 3) := by decide +kernel
theorem dX8_open_75 : decode cX8_open 75 = .ok (.iload 5, 2) := by decide +kernel
theorem dX8_open_77 : decode cX8_open 77 = .ok (.iload 6, 2) := by decide +kernel
theorem dX8_open_79 : decode cX8_open 79 = .ok (.iload_n 2, 1) := by decide +kernel
theorem dX8_open_80 : decode cX8_open 80 = .ok (.invokevirtual 210, 3) := by decide +kernel
theorem dX8_open_83 : decode cX8_open 83 = .ok (.ifCond .eq 20, 3) := by decide +kernel
theorem dX8_open_86 : decode cX8_open 86 = .ok (.iload 4, 2) := by decide +kernel
theorem dX8_open_88 : decode cX8_open 88 = .ok (.ifCond .ne 12, 3) := by decide +kernel
theorem dX8_open_91 : decode cX8_open 91 = .ok (.iload 5, 2) := by decide +kernel
theorem dX8_open_93 : decode cX8_open 93 = .ok (.bipush 16, 2) := by decide +kernel
theorem dX8_open_95 : decode cX8_open 95 = .ok (.imul, 1) := by decide +kernel
theorem dX8_open_96 : decode cX8_open 96 = .ok (.iload 6, 2) := by decide +kernel
theorem dX8_open_98 : decode cX8_open 98 = .ok (.iadd, 1) := by decide +kernel
theorem dX8_open_99 : decode cX8_open 99 = .ok (.ireturn, 1) := by decide +kernel
theorem dX8_open_100 : decode cX8_open 100 = .ok (.iinc 4 (-1), 3) := by decide +kernel
theorem dX8_open_103 : decode cX8_open 103 = .ok (.iinc 6 1, 3) := by decide +kernel
theorem dX8_open_106 : decode cX8_open 106 = .ok (.goto (-42), 3) := by decide +kernel
theorem dX8_open_109 : decode cX8_open 109 = .ok (.iinc 5 1, 3) := by decide +kernel
theorem dX8_open_112 : decode cX8_open 112 = .ok (.goto (-71), 3) := by decide +kernel
theorem dX8_open_115 : decode cX8_open 115 = .ok (.iconst (-1), 1) := by decide +kernel
theorem dX8_open_116 : decode cX8_open 116 = .ok (.ireturn, 1) := by decide +kernel
theorem dX8_grounded_0 : decode cX8_grounded 0 = .ok (.aload_n 0, 1) := by decide +kernel
theorem dX8_grounded_1 : decode cX8_grounded 1 = .ok (.getfield 21, 3) := by decide +kernel
theorem dX8_grounded_4 : decode cX8_grounded 4 = .ok (.iload_n 1, 1) := by decide +kernel
theorem dX8_grounded_5 : decode cX8_grounded 5 = .ok (.invokevirtual 109, 3) := by decide +kernel
theorem dX8_grounded_8 : decode cX8_grounded 8 = .ok (.ifCond .eq 10, 3) := by decide +kernel
theorem dX8_grounded_11 : decode cX8_grounded 11 = .ok (.iload_n 2, 1) := by decide +kernel
theorem dX8_grounded_12 : decode cX8_grounded 12 = .ok (.invokestatic 79, 3) := by decide +kernel
theorem dX8_grounded_15 : decode cX8_grounded 15 = .ok (.ifCond .ne 5, 3) := by decide +kernel
theorem dX8_grounded_18 : decode cX8_grounded 18 = .ok (.iconst (-1), 1) := by decide +kernel
theorem dX8_grounded_19 : decode cX8_grounded 19 = .ok (.ireturn, 1) := by decide +kernel
theorem dX8_grounded_20 : decode cX8_grounded 20 = .ok (.aload_n 0, 1) := by decide +kernel
theorem dX8_grounded_21 : decode cX8_grounded 21 = .ok (.getfield 56, 3) := by decide +kernel
theorem dX8_grounded_24 : decode cX8_grounded 24 = .ok (.iload_n 2, 1) := by decide +kernel
theorem dX8_grounded_25 : decode cX8_grounded 25 = .ok (.invokestatic 187, 3) := by decide +kernel
theorem dX8_grounded_28 : decode cX8_grounded 28 = .ok (.invokevirtual 164, 3) := by decide +kernel
theorem dX8_grounded_31 : decode cX8_grounded 31 = .ok (.iconst 0, 1) := by decide +kernel
theorem dX8_grounded_32 : decode cX8_grounded 32 = .ok (.istore_n 3, 1) := by decide +kernel
theorem dX8_grounded_33 : decode cX8_grounded 33 = .ok (.iload_n 3, 1) := by decide +kernel
theorem dX8_grounded_34 : decode cX8_grounded 34 = .ok (.bipush 40, 2) := by decide +kernel
theorem dX8_grounded_36 : decode cX8_grounded 36 = .ok (.if_icmp .ge 46, 3) := by decide +kernel
theorem dX8_grounded_39 : decode cX8_grounded 39 = .ok (.aload_n 0, 1) := by decide +kernel
theorem dX8_grounded_40 : decode cX8_grounded 40 = .ok (.iload_n 1, 1) := by decide +kernel
theorem dX8_grounded_41 : decode cX8_grounded 41 = .ok (.iload_n 3, 1) := by decide +kernel
theorem dX8_grounded_42 : decode cX8_grounded 42 = .ok (.invokevirtual 207, 3) := by decide +kernel
theorem dX8_grounded_45 : decode cX8_grounded 45 = .ok (.ifCond .eq 31, 3) := by decide +kernel
theorem dX8_grounded_48 : decode cX8_grounded 48 = .ok (.aload_n 0, 1) := by decide +kernel
theorem dX8_grounded_49 : decode cX8_grounded 49 = .ok (.iload_n 3, 1) := by decide +kernel
theorem dX8_grounded_50 : decode cX8_grounded 50 = .ok (.iload_n 2, 1) := by decide +kernel
theorem dX8_grounded_51 : decode cX8_grounded 51 = .ok (.invokevirtual 213, 3) := by decide +kernel
theorem dX8_grounded_54 : decode cX8_grounded 54 = .ok (.ifCond .ne 20, 3) := by decide +kernel
theorem dX8_grounded_57 : decode cX8_grounded 57 = .ok (.aload_n 0, 1) := by decide +kernel
theorem dX8_grounded_58 : decode cX8_grounded 58 = .ok (.iload_n 3, 1) := by decide +kernel
theorem dX8_grounded_59 : decode cX8_grounded 59 = .ok (.invokevirtual 216, 3) := by decide +kernel
theorem dX8_grounded_62 : decode cX8_grounded 62 = .ok (.ifCond .ne 12, 3) := by decide +kernel
theorem dX8_grounded_65 : decode cX8_grounded 65 = .ok (.aload_n 0, 1) := by decide +kernel
theorem dX8_grounded_66 : decode cX8_grounded 66 = .ok (.iload_n 3, 1) := by decide +kernel
theorem dX8_grounded_67 : decode cX8_grounded 67 = .ok (.iload_n 2, 1) := by decide +kernel
theorem dX8_grounded_68 : decode cX8_grounded 68 = .ok (.invokevirtual 219, 3) := by decide +kernel
theorem dX8_grounded_71 : decode cX8_grounded 71 = .ok (.ifCond .eq 5, 3) := by decide +kernel
theorem dX8_grounded_74 : decode cX8_grounded 74 = .ok (.iconst 1, 1) := by decide +kernel
theorem dX8_grounded_75 : decode cX8_grounded 75 = .ok (.ireturn, 1) := by decide +kernel
theorem dX8_grounded_76 : decode cX8_grounded 76 = .ok (.iinc 3 1, 3) := by decide +kernel
theorem dX8_grounded_79 : decode cX8_grounded 79 = .ok (.goto (-46), 3) := by decide +kernel
theorem dX8_grounded_82 : decode cX8_grounded 82 = .ok (.iconst 0, 1) := by decide +kernel
theorem dX8_grounded_83 : decode cX8_grounded 83 = .ok (.ireturn, 1) := by decide +kernel
theorem dX8_forecast_0 : decode cX8_forecast 0 = .ok (.aload_n 0, 1) := by decide +kernel
theorem dX8_forecast_1 : decode cX8_forecast 1 = .ok (.getfield 21, 3) := by decide +kernel
theorem dX8_forecast_4 : decode cX8_forecast 4 = .ok (.iload_n 1, 1) := by decide +kernel
theorem dX8_forecast_5 : decode cX8_forecast 5 = .ok (.invokevirtual 109, 3) := by decide +kernel
theorem dX8_forecast_8 : decode cX8_forecast 8 = .ok (.ifCond .eq 36, 3) := by decide +kernel
theorem dX8_forecast_11 : decode cX8_forecast 11 = .ok (.iload_n 2, 1) := by decide +kernel
theorem dX8_forecast_12 : decode cX8_forecast 12 = .ok (.invokestatic 79, 3) := by decide +kernel
theorem dX8_forecast_15 : decode cX8_forecast 15 = .ok (.ifCond .eq 29, 3) := by decide +kernel
theorem dX8_forecast_18 : decode cX8_forecast 18 = .ok (.iload 5, 2) := by decide +kernel
theorem dX8_forecast_20 : decode cX8_forecast 20 = .ok (.ifCond .lt 24, 3) := by decide +kernel
theorem dX8_forecast_23 : decode cX8_forecast 23 = .ok (.iload_n 3, 1) := by decide +kernel
theorem dX8_forecast_24 : decode cX8_forecast 24 = .ok (.sipush 1440, 3) := by decide +kernel
theorem dX8_forecast_27 : decode cX8_forecast 27 = .ok (.invokestatic 83, 3) := by decide +kernel
theorem dX8_forecast_30 : decode cX8_forecast 30 = .ok (.ifCond .eq 14, 3) := by decide +kernel
theorem dX8_forecast_33 : decode cX8_forecast 33 = .ok (.iload 4, 2) := by decide +kernel
theorem dX8_forecast_35 : decode cX8_forecast 35 = .ok (.sipush 1440, 3) := by decide +kernel
theorem dX8_forecast_38 : decode cX8_forecast 38 = .ok (.invokestatic 83, 3) := by decide +kernel
theorem dX8_forecast_41 : decode cX8_forecast 41 = .ok (.ifCond .ne 5, 3) := by decide +kernel
theorem dX8_forecast_44 : decode cX8_forecast 44 = .ok (.iconst (-1), 1) := by decide +kernel
theorem dX8_forecast_45 : decode cX8_forecast 45 = .ok (.ireturn, 1) := by decide +kernel
theorem dX8_forecast_46 : decode cX8_forecast 46 = .ok (.aload_n 0, 1) := by decide +kernel
theorem dX8_forecast_47 : decode cX8_forecast 47 = .ok (.getfield 56, 3) := by decide +kernel
theorem dX8_forecast_50 : decode cX8_forecast 50 = .ok (.iload_n 2, 1) := by decide +kernel
theorem dX8_forecast_51 : decode cX8_forecast 51 = .ok (.invokestatic 187, 3) := by decide +kernel
theorem dX8_forecast_54 : decode cX8_forecast 54 = .ok (.invokevirtual 164, 3) := by decide +kernel
theorem dX8_forecast_57 : decode cX8_forecast 57 = .ok (.iconst 0, 1) := by decide +kernel
theorem dX8_forecast_58 : decode cX8_forecast 58 = .ok (.istore 6, 2) := by decide +kernel
theorem dX8_forecast_60 : decode cX8_forecast 60 = .ok (.iconst 0, 1) := by decide +kernel
theorem dX8_forecast_61 : decode cX8_forecast 61 = .ok (.istore 7, 2) := by decide +kernel
theorem dX8_forecast_63 : decode cX8_forecast 63 = .ok (.iload 7, 2) := by decide +kernel
theorem dX8_forecast_65 : decode cX8_forecast 65 = .ok (.bipush 40, 2) := by decide +kernel
theorem dX8_forecast_67 : decode cX8_forecast 67 = .ok (.if_icmp .ge 33, 3) := by decide +kernel
theorem dX8_forecast_70 : decode cX8_forecast 70 = .ok (.aload_n 0, 1) := by decide +kernel
theorem dX8_forecast_71 : decode cX8_forecast 71 = .ok (.iload_n 1, 1) := by decide +kernel
theorem dX8_forecast_72 : decode cX8_forecast 72 = .ok (.iload 7, 2) := by decide +kernel
theorem dX8_forecast_74 : decode cX8_forecast 74 = .ok (.invokevirtual 207, 3) := by decide +kernel
theorem dX8_forecast_77 : decode cX8_forecast 77 = .ok (.ifCond .eq 17, 3) := by decide +kernel
theorem dX8_forecast_80 : decode cX8_forecast 80 = .ok (.aload_n 0, 1) := by decide +kernel
theorem dX8_forecast_81 : decode cX8_forecast 81 = .ok (.iload 7, 2) := by decide +kernel
theorem dX8_forecast_83 : decode cX8_forecast 83 = .ok (.iload_n 2, 1) := by decide +kernel
theorem dX8_forecast_84 : decode cX8_forecast 84 = .ok (.iload_n 3, 1) := by decide +kernel
theorem dX8_forecast_85 : decode cX8_forecast 85 = .ok (.iload 4, 2) := by decide +kernel
theorem dX8_forecast_87 : decode cX8_forecast 87 = .ok (.iload 6, 2) := by decide +kernel
theorem dX8_forecast_89 : decode cX8_forecast 89 = .ok (.invokevirtual 222, 3) := by decide +kernel
theorem dX8_forecast_92 : decode cX8_forecast 92 = .ok (.istore 6, 2) := by decide +kernel
theorem dX8_forecast_94 : decode cX8_forecast 94 = .ok (.iinc 7 1, 3) := by decide +kernel
theorem dX8_forecast_97 : decode cX8_forecast 97 = .ok (.goto (-34), 3) := by decide +kernel
theorem dX8_forecast_100 : decode cX8_forecast 100 = .ok (.iload 5, 2) := by decide +kernel
theorem dX8_forecast_102 : decode cX8_forecast 102 = .ok (.iload 6, 2) := by decide +kernel
theorem dX8_forecast_104 : decode cX8_forecast 104 = .ok (.if_icmp .ge 13, 3) := by decide +kernel
theorem dX8_forecast_107 : decode cX8_forecast 107 = .ok (.aload_n 0, 1) := by decide +kernel
theorem dX8_forecast_108 : decode cX8_forecast 108 = .ok (.getfield 60, 3) := by decide +kernel
theorem dX8_forecast_111 : decode cX8_forecast 111 = .ok (.iload 5, 2) := by decide +kernel
theorem dX8_forecast_113 : decode cX8_forecast 113 = .ok (.iaload, 1) := by decide +kernel
theorem dX8_forecast_114 : decode cX8_forecast 114 = .ok (.goto 4, 3) := by decide +kernel
theorem dX8_forecast_117 : decode cX8_forecast 117 = .ok (.iconst (-1), 1) := by decide +kernel
theorem dX8_forecast_118 : decode cX8_forecast 118 = .ok (.ireturn, 1) := by decide +kernel
theorem dX8_forecastThing_0 : decode cX8_forecastThing 0 = .ok (.iload 5, 2) := by decide +kernel
theorem dX8_forecastThing_2 : decode cX8_forecastThing 2 = .ok (.istore 6, 2) := by decide +kernel
theorem dX8_forecastThing_4 : decode cX8_forecastThing 4 = .ok (.iconst 0, 1) := by decide +kernel
theorem dX8_forecastThing_5 : decode cX8_forecastThing 5 = .ok (.istore 7, 2) := by decide +kernel
theorem dX8_forecastThing_7 : decode cX8_forecastThing 7 = .ok (.iload 7, 2) := by decide +kernel
theorem dX8_forecastThing_9 : decode cX8_forecastThing 9 = .ok (.bipush 16, 2) := by decide +kernel
theorem dX8_forecastThing_11 : decode cX8_forecastThing 11 = .ok (.if_icmp .ge 70, 3) := by decide +kernel
theorem dX8_forecastThing_14 : decode cX8_forecastThing 14 = .ok (.aload_n 0, 1) := by decide +kernel
theorem dX8_forecastThing_15 : decode cX8_forecastThing 15 = .ok (.getfield 56, 3) := by decide +kernel
theorem dX8_forecastThing_18 : decode cX8_forecastThing 18 = .ok (.iload_n 1, 1) := by decide +kernel
theorem dX8_forecastThing_19 : decode cX8_forecastThing 19 = .ok (.iload 7, 2) := by decide +kernel
theorem dX8_forecastThing_21 : decode cX8_forecastThing 21 = .ok (.invokevirtual 200, 3) := by decide +kernel
theorem dX8_forecastThing_24 : decode cX8_forecastThing 24 = .ok (.ifCond .ne 6, 3) := by decide +kernel
theorem dX8_forecastThing_27 : decode cX8_forecastThing 27 = .ok (.goto 48, 3) := by decide +kernel
theorem dX8_forecastThing_30 : decode cX8_forecastThing 30 = .ok (.aload_n 0, 1) := by decide +kernel
theorem dX8_forecastThing_31 : decode cX8_forecastThing 31 = .ok (.getfield 56, 3) := by decide +kernel
theorem dX8_forecastThing_34 : decode cX8_forecastThing 34 = .ok (.iload_n 1, 1) := by decide +kernel
theorem dX8_forecastThing_35 : decode cX8_forecastThing 35 = .ok (.iload 7, 2) := by decide +kernel
theorem dX8_forecastThing_37 : decode cX8_forecastThing 37 = .ok (.iload_n 2, 1) := by decide +kernel
theorem dX8_forecastThing_38 : decode cX8_forecastThing 38 = .ok (.iload_n 3, 1) := by decide +kernel
theorem dX8_forecastThing_39 : decode cX8_forecastThing 39 = .ok (.iload 4, 2) := by decide +kernel
theorem dX8_forecastThing_41 : decode cX8_forecastThing 41 = .ok (.invokevirtual 226, 3) := by decide +kernel
theorem dX8_forecastThing_44 : decode cX8_forecastThing 44 = .ok (.istore 8, 2) := by decide +kernel
theorem dX8_forecastThing_46 : decode cX8_forecastThing 46 = .ok (.iload 8, 2) := by decide +kernel
theorem dX8_forecastThing_48 : decode cX8_forecastThing 48 = .ok (.ldc 229, 2) := by decide +kernel
theorem dX8_forecastThing_50 : decode cX8_forecastThing 50 = .ok (.if_icmp .gt 25, 3) := by decide +kernel
theorem dX8_forecastThing_53 : decode cX8_forecastThing 53 = .ok (.aload_n 0, 1) := by decide +kernel
theorem dX8_forecastThing_54 : decode cX8_forecastThing 54 = .ok (.iload 8, 2) := by decide +kernel
theorem dX8_forecastThing_56 : decode cX8_forecastThing 56 = .ok (.bipush 40, 2) := by decide +kernel
theorem dX8_forecastThing_58 : decode cX8_forecastThing 58 = .ok (.imul, 1) := by decide +kernel
theorem dX8_forecastThing_59 : decode cX8_forecastThing 59 = .ok (.iload_n 1, 1) := by decide +kernel
theorem dX8_forecastThing_60 : decode cX8_forecastThing 60 = .ok (.iadd, 1) := by decide +kernel
theorem dX8_forecastThing_61 : decode cX8_forecastThing 61 = .ok (.bipush 16, 2) := by decide +kernel
theorem dX8_forecastThing_63 : decode cX8_forecastThing 63 = .ok (.imul, 1) := by decide +kernel
theorem dX8_forecastThing_64 : decode cX8_forecastThing 64 = .ok (.iload 7, 2) := by decide +kernel
theorem dX8_forecastThing_66 : decode cX8_forecastThing 66 = .ok (.iadd, 1) := by decide +kernel
theorem dX8_forecastThing_67 : decode cX8_forecastThing 67 = .ok (.iload 6, 2) := by decide +kernel
theorem dX8_forecastThing_69 : decode cX8_forecastThing 69 = .ok (.invokevirtual 230, 3) := by decide +kernel
theorem dX8_forecastThing_72 : decode cX8_forecastThing 72 = .ok (.iinc 6 1, 3) := by decide +kernel
theorem dX8_forecastThing_75 : decode cX8_forecastThing 75 = .ok (.iinc 7 1, 3) := by decide +kernel
theorem dX8_forecastThing_78 : decode cX8_forecastThing 78 = .ok (.goto (-71), 3) := by decide +kernel
theorem dX8_forecastThing_81 : decode cX8_forecastThing 81 = .ok (.iload 6, 2) := by decide +kernel
theorem dX8_forecastThing_83 : decode cX8_forecastThing 83 = .ok (.ireturn, 1) := by decide +kernel
theorem dX8_sortIn_0 : decode cX8_sortIn 0 = .ok (.iload_n 2, 1) := by decide +kernel
theorem dX8_sortIn_1 : decode cX8_sortIn 1 = .ok (.istore_n 3, 1) := by decide +kernel
theorem dX8_sortIn_2 : decode cX8_sortIn 2 = .ok (.iload_n 3, 1) := by decide +kernel
theorem dX8_sortIn_3 : decode cX8_sortIn 3 = .ok (.ifCond .le 35, 3) := by decide +kernel
theorem dX8_sortIn_6 : decode cX8_sortIn 6 = .ok (.aload_n 0, 1) := by decide +kernel
theorem dX8_sortIn_7 : decode cX8_sortIn 7 = .ok (.getfield 60, 3) := by decide +kernel
theorem dX8_sortIn_10 : decode cX8_sortIn 10 = .ok (.iload_n 3, 1) := by decide +kernel
theorem dX8_sortIn_11 : decode cX8_sortIn 11 = .ok (.iconst 1, 1) := by decide +kernel
theorem dX8_sortIn_12 : decode cX8_sortIn 12 = .ok (.isub, 1) := by decide +kernel
theorem dX8_sortIn_13 : decode cX8_sortIn 13 = .ok (.iaload, 1) := by decide +kernel
theorem dX8_sortIn_14 : decode cX8_sortIn 14 = .ok (.iload_n 1, 1) := by decide +kernel
theorem dX8_sortIn_15 : decode cX8_sortIn 15 = .ok (.if_icmp .le 23, 3) := by decide +kernel
theorem dX8_sortIn_18 : decode cX8_sortIn 18 = .ok (.aload_n 0, 1) := by decide +kernel
theorem dX8_sortIn_19 : decode cX8_sortIn 19 = .ok (.getfield 60, 3) := by decide +kernel
theorem dX8_sortIn_22 : decode cX8_sortIn 22 = .ok (.iload_n 3, 1) := by decide +kernel
theorem dX8_sortIn_23 : decode cX8_sortIn 23 = .ok (.aload_n 0, 1) := by decide +kernel
theorem dX8_sortIn_24 : decode cX8_sortIn 24 = .ok (.getfield 60, 3) := by decide +kernel
theorem dX8_sortIn_27 : decode cX8_sortIn 27 = .ok (.iload_n 3, 1) := by decide +kernel
theorem dX8_sortIn_28 : decode cX8_sortIn 28 = .ok (.iconst 1, 1) := by decide +kernel
theorem dX8_sortIn_29 : decode cX8_sortIn 29 = .ok (.isub, 1) := by decide +kernel
theorem dX8_sortIn_30 : decode cX8_sortIn 30 = .ok (.iaload, 1) := by decide +kernel
theorem dX8_sortIn_31 : decode cX8_sortIn 31 = .ok (.iastore, 1) := by decide +kernel
theorem dX8_sortIn_32 : decode cX8_sortIn 32 = .ok (.iinc 3 (-1), 3) := by decide +kernel
theorem dX8_sortIn_35 : decode cX8_sortIn 35 = .ok (.goto (-33), 3) := by decide +kernel
theorem dX8_sortIn_38 : decode cX8_sortIn 38 = .ok (.aload_n 0, 1) := by decide +kernel
theorem dX8_sortIn_39 : decode cX8_sortIn 39 = .ok (.getfield 60, 3) := by decide +kernel
theorem dX8_sortIn_42 : decode cX8_sortIn 42 = .ok (.iload_n 3, 1) := by decide +kernel
theorem dX8_sortIn_43 : decode cX8_sortIn 43 = .ok (.iload_n 1, 1) := by decide +kernel
theorem dX8_sortIn_44 : decode cX8_sortIn 44 = .ok (.iastore, 1) := by decide +kernel
theorem dX8_sortIn_45 : decode cX8_sortIn 45 = .ok (.return_, 1) := by decide +kernel
theorem dX8_isPastItsLife_0 : decode cX8_isPastItsLife 0 = .ok (.aload_n 0, 1) := by decide +kernel
theorem dX8_isPastItsLife_1 : decode cX8_isPastItsLife 1 = .ok (.getfield 21, 3) := by decide +kernel
theorem dX8_isPastItsLife_4 : decode cX8_isPastItsLife 4 = .ok (.getfield 234, 3) := by decide +kernel
theorem dX8_isPastItsLife_7 : decode cX8_isPastItsLife 7 = .ok (.iload_n 1, 1) := by decide +kernel
theorem dX8_isPastItsLife_8 : decode cX8_isPastItsLife 8 = .ok (.iaload, 1) := by decide +kernel
theorem dX8_isPastItsLife_9 : decode cX8_isPastItsLife 9 = .ok (.istore_n 3, 1) := by decide +kernel
theorem dX8_isPastItsLife_10 : decode cX8_isPastItsLife 10 = .ok (.iconst 0, 1) := by decide +kernel
theorem dX8_isPastItsLife_11 : decode cX8_isPastItsLife 11 = .ok (.istore 4, 2) := by decide +kernel
theorem dX8_isPastItsLife_13 : decode cX8_isPastItsLife 13 = .ok (.iload 4, 2) := by decide +kernel
theorem dX8_isPastItsLife_15 : decode cX8_isPastItsLife 15 = .ok (.iconst 2, 1) := by decide +kernel
theorem dX8_isPastItsLife_16 : decode cX8_isPastItsLife 16 = .ok (.if_icmp .ge 46, 3) := by decide +kernel
theorem dX8_isPastItsLife_19 : decode cX8_isPastItsLife 19 = .ok (.aload_n 0, 1) := by decide +kernel
theorem dX8_isPastItsLife_20 : decode cX8_isPastItsLife 20 = .ok (.getfield 12, 3) := by decide +kernel
theorem dX8_isPastItsLife_23 : decode cX8_isPastItsLife 23 = .ok (.getfield 105, 3) := by decide +kernel
theorem dX8_isPastItsLife_26 : decode cX8_isPastItsLife 26 = .ok (.iload 4, 2) := by decide +kernel
theorem dX8_isPastItsLife_28 : decode cX8_isPastItsLife 28 = .ok (.aaload, 1) := by decide +kernel
theorem dX8_isPastItsLife_29 : decode cX8_isPastItsLife 29 = .ok (.iload_n 3, 1) := by decide +kernel
theorem dX8_isPastItsLife_30 : decode cX8_isPastItsLife 30 = .ok (.iaload, 1) := by decide +kernel
theorem dX8_isPastItsLife_31 : decode cX8_isPastItsLife 31 = .ok (.istore 5, 2) := by decide +kernel
theorem dX8_isPastItsLife_33 : decode cX8_isPastItsLife 33 = .ok (.iload 5, 2) := by decide +kernel
theorem dX8_isPastItsLife_35 : decode cX8_isPastItsLife 35 = .ok (.ifCond .le 21, 3) := by decide +kernel
theorem dX8_isPastItsLife_38 : decode cX8_isPastItsLife 38 = .ok (.aload_n 0, 1) := by decide +kernel
theorem dX8_isPastItsLife_39 : decode cX8_isPastItsLife 39 = .ok (.getfield 56, 3) := by decide +kernel
theorem dX8_isPastItsLife_42 : decode cX8_isPastItsLife 42 = .ok (.iload_n 1, 1) := by decide +kernel
theorem dX8_isPastItsLife_43 : decode cX8_isPastItsLife 43 = .ok (.iload 4, 2) := by decide +kernel
theorem dX8_isPastItsLife_45 : decode cX8_isPastItsLife 45 = .ok (.iload_n 2, 1) := by decide +kernel
theorem dX8_isPastItsLife_46 : decode cX8_isPastItsLife 46 = .ok (.invokevirtual 190, 3) := by decide +kernel
theorem dX8_isPastItsLife_49 : decode cX8_isPastItsLife 49 = .ok (.iload 5, 2) := by decide +kernel
theorem dX8_isPastItsLife_51 : decode cX8_isPastItsLife 51 = .ok (.if_icmp .le 5, 3) := by decide +kernel
theorem dX8_isPastItsLife_54 : decode cX8_isPastItsLife 54 = .ok (.iconst 1, 1) := by decide +kernel
theorem dX8_isPastItsLife_55 : decode cX8_isPastItsLife 55 = .ok (.ireturn, 1) := by decide +kernel
theorem dX8_isPastItsLife_56 : decode cX8_isPastItsLife 56 = .ok (.iinc 4 1, 3) := by decide +kernel
theorem dX8_isPastItsLife_59 : decode cX8_isPastItsLife 59 = .ok (.goto (-46), 3) := by decide +kernel
theorem dX8_isPastItsLife_62 : decode cX8_isPastItsLife 62 = .ok (.iconst 0, 1) := by decide +kernel
theorem dX8_isPastItsLife_63 : decode cX8_isPastItsLife 63 = .ok (.ireturn, 1) := by decide +kernel
theorem dX8_hasEmptyPlace_0 : decode cX8_hasEmptyPlace 0 = .ok (.aload_n 0, 1) := by decide +kernel
theorem dX8_hasEmptyPlace_1 : decode cX8_hasEmptyPlace 1 = .ok (.getfield 21, 3) := by decide +kernel
theorem dX8_hasEmptyPlace_4 : decode cX8_hasEmptyPlace 4 = .ok (.getfield 234, 3) := by decide +kernel
theorem dX8_hasEmptyPlace_7 : decode cX8_hasEmptyPlace 7 = .ok (.iload_n 1, 1) := by decide +kernel
theorem dX8_hasEmptyPlace_8 : decode cX8_hasEmptyPlace 8 = .ok (.iaload, 1) := by decide +kernel
theorem dX8_hasEmptyPlace_9 : decode cX8_hasEmptyPlace 9 = .ok (.istore_n 2, 1) := by decide +kernel
theorem dX8_hasEmptyPlace_10 : decode cX8_hasEmptyPlace 10 = .ok (.iconst 0, 1) := by decide +kernel
theorem dX8_hasEmptyPlace_11 : decode cX8_hasEmptyPlace 11 = .ok (.istore_n 3, 1) := by decide +kernel
theorem dX8_hasEmptyPlace_12 : decode cX8_hasEmptyPlace 12 = .ok (.iload_n 3, 1) := by decide +kernel
theorem dX8_hasEmptyPlace_13 : decode cX8_hasEmptyPlace 13 = .ok (.iconst 4, 1) := by decide +kernel
theorem dX8_hasEmptyPlace_14 : decode cX8_hasEmptyPlace 14 = .ok (.if_icmp .ge 48, 3) := by decide +kernel
theorem dX8_hasEmptyPlace_17 : decode cX8_hasEmptyPlace 17 = .ok (.aload_n 0, 1) := by decide +kernel
theorem dX8_hasEmptyPlace_18 : decode cX8_hasEmptyPlace 18 = .ok (.getfield 12, 3) := by decide +kernel
theorem dX8_hasEmptyPlace_21 : decode cX8_hasEmptyPlace 21 = .ok (.getfield 72, 3) := by decide +kernel
theorem dX8_hasEmptyPlace_24 : decode cX8_hasEmptyPlace 24 = .ok (.iload_n 2, 1) := by decide +kernel
theorem dX8_hasEmptyPlace_25 : decode cX8_hasEmptyPlace 25 = .ok (.iconst 4, 1) := by decide +kernel
theorem dX8_hasEmptyPlace_26 : decode cX8_hasEmptyPlace 26 = .ok (.imul, 1) := by decide +kernel
theorem dX8_hasEmptyPlace_27 : decode cX8_hasEmptyPlace 27 = .ok (.iload_n 3, 1) := by decide +kernel
theorem dX8_hasEmptyPlace_28 : decode cX8_hasEmptyPlace 28 = .ok (.iadd, 1) := by decide +kernel
theorem dX8_hasEmptyPlace_29 : decode cX8_hasEmptyPlace 29 = .ok (.iaload, 1) := by decide +kernel
theorem dX8_hasEmptyPlace_30 : decode cX8_hasEmptyPlace 30 = .ok (.iconst (-1), 1) := by decide +kernel
theorem dX8_hasEmptyPlace_31 : decode cX8_hasEmptyPlace 31 = .ok (.if_icmp .eq 25, 3) := by decide +kernel
theorem dX8_hasEmptyPlace_34 : decode cX8_hasEmptyPlace 34 = .ok (.aload_n 0, 1) := by decide +kernel
theorem dX8_hasEmptyPlace_35 : decode cX8_hasEmptyPlace 35 = .ok (.getfield 56, 3) := by decide +kernel
theorem dX8_hasEmptyPlace_38 : decode cX8_hasEmptyPlace 38 = .ok (.getfield 168, 3) := by decide +kernel
theorem dX8_hasEmptyPlace_41 : decode cX8_hasEmptyPlace 41 = .ok (.getfield 184, 3) := by decide +kernel
theorem dX8_hasEmptyPlace_44 : decode cX8_hasEmptyPlace 44 = .ok (.iload_n 1, 1) := by decide +kernel
theorem dX8_hasEmptyPlace_45 : decode cX8_hasEmptyPlace 45 = .ok (.iconst 4, 1) := by decide +kernel
theorem dX8_hasEmptyPlace_46 : decode cX8_hasEmptyPlace 46 = .ok (.imul, 1) := by decide +kernel
theorem dX8_hasEmptyPlace_47 : decode cX8_hasEmptyPlace 47 = .ok (.iload_n 3, 1) := by decide +kernel
theorem dX8_hasEmptyPlace_48 : decode cX8_hasEmptyPlace 48 = .ok (.iadd, 1) := by decide +kernel
theorem dX8_hasEmptyPlace_49 : decode cX8_hasEmptyPlace 49 = .ok (.iaload, 1) := by decide +kernel
theorem dX8_hasEmptyPlace_50 : decode cX8_hasEmptyPlace 50 = .ok (.iconst (-1), 1) := by decide +kernel
theorem dX8_hasEmptyPlace_51 : decode cX8_hasEmptyPlace 51 = .ok (.if_icmp .ne 5, 3) := by decide +kernel
theorem dX8_hasEmptyPlace_54 : decode cX8_hasEmptyPlace 54 = .ok (.iconst 1, 1) := by decide +kernel
theorem dX8_hasEmptyPlace_55 : decode cX8_hasEmptyPlace 55 = .ok (.ireturn, 1) := by decide +kernel
theorem dX8_hasEmptyPlace_56 : decode cX8_hasEmptyPlace 56 = .ok (.iinc 3 1, 3) := by decide +kernel
theorem dX8_hasEmptyPlace_59 : decode cX8_hasEmptyPlace 59 = .ok (.goto (-47), 3) := by decide +kernel
theorem dX8_hasEmptyPlace_62 : decode cX8_hasEmptyPlace 62 = .ok (.iconst 0, 1) := by decide +kernel
theorem dX8_hasEmptyPlace_63 : decode cX8_hasEmptyPlace 63 = .ok (.ireturn, 1) := by decide +kernel
theorem dX8_owesAnOrder_0 : decode cX8_owesAnOrder 0 = .ok (.iconst 0, 1) := by decide +kernel
theorem dX8_owesAnOrder_1 : decode cX8_owesAnOrder 1 = .ok (.istore_n 3, 1) := by decide +kernel
theorem dX8_owesAnOrder_2 : decode cX8_owesAnOrder 2 = .ok (.iload_n 3, 1) := by decide +kernel
theorem dX8_owesAnOrder_3 : decode cX8_owesAnOrder 3 = .ok (.bipush 8, 2) := by decide +kernel
theorem dX8_owesAnOrder_5 : decode cX8_owesAnOrder 5 = .ok (.if_icmp .ge 44, 3) := by decide +kernel
theorem dX8_owesAnOrder_8 : decode cX8_owesAnOrder 8 = .ok (.aload_n 0, 1) := by decide +kernel
theorem dX8_owesAnOrder_9 : decode cX8_owesAnOrder 9 = .ok (.getfield 56, 3) := by decide +kernel
theorem dX8_owesAnOrder_12 : decode cX8_owesAnOrder 12 = .ok (.iload_n 3, 1) := by decide +kernel
theorem dX8_owesAnOrder_13 : decode cX8_owesAnOrder 13 = .ok (.iload_n 1, 1) := by decide +kernel
theorem dX8_owesAnOrder_14 : decode cX8_owesAnOrder 14 = .ok (.invokevirtual 235, 3) := by decide +kernel
theorem dX8_owesAnOrder_17 : decode cX8_owesAnOrder 17 = .ok (.ifCond .eq 26, 3) := by decide +kernel
theorem dX8_owesAnOrder_20 : decode cX8_owesAnOrder 20 = .ok (.aload_n 0, 1) := by decide +kernel
theorem dX8_owesAnOrder_21 : decode cX8_owesAnOrder 21 = .ok (.getfield 56, 3) := by decide +kernel
theorem dX8_owesAnOrder_24 : decode cX8_owesAnOrder 24 = .ok (.iload_n 1, 1) := by decide +kernel
theorem dX8_owesAnOrder_25 : decode cX8_owesAnOrder 25 = .ok (.aload_n 0, 1) := by decide +kernel
theorem dX8_owesAnOrder_26 : decode cX8_owesAnOrder 26 = .ok (.getfield 35, 3) := by decide +kernel
theorem dX8_owesAnOrder_29 : decode cX8_owesAnOrder 29 = .ok (.getfield 238, 3) := by decide +kernel
theorem dX8_owesAnOrder_32 : decode cX8_owesAnOrder 32 = .ok (.iload_n 3, 1) := by decide +kernel
theorem dX8_owesAnOrder_33 : decode cX8_owesAnOrder 33 = .ok (.iaload, 1) := by decide +kernel
theorem dX8_owesAnOrder_34 : decode cX8_owesAnOrder 34 = .ok (.iload_n 2, 1) := by decide +kernel
theorem dX8_owesAnOrder_35 : decode cX8_owesAnOrder 35 = .ok (.invokevirtual 210, 3) := by decide +kernel
theorem dX8_owesAnOrder_38 : decode cX8_owesAnOrder 38 = .ok (.ifCond .eq 5, 3) := by decide +kernel
theorem dX8_owesAnOrder_41 : decode cX8_owesAnOrder 41 = .ok (.iconst 1, 1) := by decide +kernel
theorem dX8_owesAnOrder_42 : decode cX8_owesAnOrder 42 = .ok (.ireturn, 1) := by decide +kernel
theorem dX8_owesAnOrder_43 : decode cX8_owesAnOrder 43 = .ok (.iinc 3 1, 3) := by decide +kernel
theorem dX8_owesAnOrder_46 : decode cX8_owesAnOrder 46 = .ok (.goto (-44), 3) := by decide +kernel
theorem dX8_owesAnOrder_49 : decode cX8_owesAnOrder 49 = .ok (.iconst 0, 1) := by decide +kernel
theorem dX8_owesAnOrder_50 : decode cX8_owesAnOrder 50 = .ok (.ireturn, 1) := by decide +kernel
theorem dX8_isInTreeOf_0 : decode cX8_isInTreeOf 0 = .ok (.aload_n 0, 1) := by decide +kernel
theorem dX8_isInTreeOf_1 : decode cX8_isInTreeOf 1 = .ok (.getfield 21, 3) := by decide +kernel
theorem dX8_isInTreeOf_4 : decode cX8_isInTreeOf 4 = .ok (.iload_n 2, 1) := by decide +kernel
theorem dX8_isInTreeOf_5 : decode cX8_isInTreeOf 5 = .ok (.invokevirtual 75, 3) := by decide +kernel
theorem dX8_isInTreeOf_8 : decode cX8_isInTreeOf 8 = .ok (.ifCond .eq 22, 3) := by decide +kernel
theorem dX8_isInTreeOf_11 : decode cX8_isInTreeOf 11 = .ok (.aload_n 0, 1) := by decide +kernel
theorem dX8_isInTreeOf_12 : decode cX8_isInTreeOf 12 = .ok (.getfield 56, 3) := by decide +kernel
theorem dX8_isInTreeOf_15 : decode cX8_isInTreeOf 15 = .ok (.getfield 168, 3) := by decide +kernel
theorem dX8_isInTreeOf_18 : decode cX8_isInTreeOf 18 = .ok (.iload_n 2, 1) := by decide +kernel
theorem dX8_isInTreeOf_19 : decode cX8_isInTreeOf 19 = .ok (.invokevirtual 241, 3) := by decide +kernel
theorem dX8_isInTreeOf_22 : decode cX8_isInTreeOf 22 = .ok (.iload_n 1, 1) := by decide +kernel
theorem dX8_isInTreeOf_23 : decode cX8_isInTreeOf 23 = .ok (.if_icmp .ne 7, 3) := by decide +kernel
theorem dX8_isInTreeOf_26 : decode cX8_isInTreeOf 26 = .ok (.iconst 1, 1) := by decide +kernel
theorem dX8_isInTreeOf_27 : decode cX8_isInTreeOf 27 = .ok (.goto 4, 3) := by decide +kernel
theorem dX8_isInTreeOf_30 : decode cX8_isInTreeOf 30 = .ok (.iconst 0, 1) := by decide +kernel
theorem dX8_isInTreeOf_31 : decode cX8_isInTreeOf 31 = .ok (.ireturn, 1) := by decide +kernel
theorem dX8_machineOf_0 : decode cX8_machineOf 0 = .ok (.aload_n 0, 1) := by decide +kernel
theorem dX8_machineOf_1 : decode cX8_machineOf 1 = .ok (.getfield 56, 3) := by decide +kernel
theorem dX8_machineOf_4 : decode cX8_machineOf 4 = .ok (.getfield 168, 3) := by decide +kernel
theorem dX8_machineOf_7 : decode cX8_machineOf 7 = .ok (.iload_n 1, 1) := by decide +kernel
theorem dX8_machineOf_8 : decode cX8_machineOf 8 = .ok (.invokevirtual 241, 3) := by decide +kernel
theorem dX8_machineOf_11 : decode cX8_machineOf 11 = .ok (.istore_n 2, 1) := by decide +kernel
theorem dX8_machineOf_12 : decode cX8_machineOf 12 = .ok (.aload_n 0, 1) := by decide +kernel
theorem dX8_machineOf_13 : decode cX8_machineOf 13 = .ok (.getfield 21, 3) := by decide +kernel
theorem dX8_machineOf_16 : decode cX8_machineOf 16 = .ok (.iload_n 2, 1) := by decide +kernel
theorem dX8_machineOf_17 : decode cX8_machineOf 17 = .ok (.invokevirtual 109, 3) := by decide +kernel
theorem dX8_machineOf_20 : decode cX8_machineOf 20 = .ok (.ifCond .eq 7, 3) := by decide +kernel
theorem dX8_machineOf_23 : decode cX8_machineOf 23 = .ok (.iload_n 2, 1) := by decide +kernel
theorem dX8_machineOf_24 : decode cX8_machineOf 24 = .ok (.goto 4, 3) := by decide +kernel
theorem dX8_machineOf_27 : decode cX8_machineOf 27 = .ok (.iconst (-1), 1) := by decide +kernel
theorem dX8_machineOf_28 : decode cX8_machineOf 28 = .ok (.ireturn, 1) := by decide +kernel
theorem dX8_enter_0 : decode cX8_enter 0 = .ok (.aload_n 0, 1) := by decide +kernel
theorem dX8_enter_1 : decode cX8_enter 1 = .ok (.getfield 44, 3) := by decide +kernel
theorem dX8_enter_4 : decode cX8_enter 4 = .ok (.aload_n 1, 1) := by decide +kernel
theorem dX8_enter_5 : decode cX8_enter 5 = .ok (.invokevirtual 244, 3) := by decide +kernel
theorem dX8_enter_8 : decode cX8_enter 8 = .ok (.istore_n 2, 1) := by decide +kernel
theorem dX8_enter_9 : decode cX8_enter 9 = .ok (.iload_n 2, 1) := by decide +kernel
theorem dX8_enter_10 : decode cX8_enter 10 = .ok (.iconst (-1), 1) := by decide +kernel
theorem dX8_enter_11 : decode cX8_enter 11 = .ok (.if_icmp .ne 13, 3) := by decide +kernel
theorem dX8_enter_14 : decode cX8_enter 14 = .ok (.new 151, 3) := by decide +kernel
theorem dX8_enter_17 : decode cX8_enter 17 = .ok (.dup, 1) := by decide +kernel
theorem dX8_enter_18 : decode cX8_enter 18 = .ok (.ldc 246, 2) := by decide +kernel
theorem dX8_enter_20 : decode cX8_enter 20 = .ok (.invokespecial 155, 3) := by decide +kernel
theorem dX8_enter_23 : decode cX8_enter 23 = .ok (.athrow, 1) := by decide +kernel
theorem dX8_enter_24 : decode cX8_enter 24 = .ok (.aload_n 0, 1) := by decide +kernel
theorem dX8_enter_25 : decode cX8_enter 25 = .ok (.getfield 56, 3) := by decide +kernel
theorem dX8_enter_28 : decode cX8_enter 28 = .ok (.invokevirtual 90, 3) := by decide +kernel
theorem dX8_enter_31 : decode cX8_enter 31 = .ok (.iload_n 2, 1) := by decide +kernel
theorem dX8_enter_32 : decode cX8_enter 32 = .ok (.ireturn, 1) := by decide +kernel
theorem dX8_refuseUnless_0 : decode cX8_refuseUnless 0 = .ok (.iload_n 0, 1) := by decide +kernel
theorem dX8_refuseUnless_1 : decode cX8_refuseUnless 1 = .ok (.ifCond .ne 13, 3) := by decide +kernel
theorem dX8_refuseUnless_4 : decode cX8_refuseUnless 4 = .ok (.new 248, 3) := by decide +kernel
theorem dX8_refuseUnless_7 : decode cX8_refuseUnless 7 = .ok (.dup, 1) := by decide +kernel
theorem dX8_refuseUnless_8 : decode cX8_refuseUnless 8 = .ok (.ldc 250, 2) := by decide +kernel
theorem dX8_refuseUnless_10 : decode cX8_refuseUnless 10 = .ok (.invokespecial 252, 3) := by decide +kernel
theorem dX8_refuseUnless_13 : decode cX8_refuseUnless 13 = .ok (.athrow, 1) := by decide +kernel
theorem dX8_refuseUnless_14 : decode cX8_refuseUnless 14 = .ok (.return_, 1) := by decide +kernel
theorem dX8_isBelow_0 : decode cX8_isBelow 0 = .ok (.iload_n 0, 1) := by decide +kernel
theorem dX8_isBelow_1 : decode cX8_isBelow 1 = .ok (.ifCond .lt 12, 3) := by decide +kernel
theorem dX8_isBelow_4 : decode cX8_isBelow 4 = .ok (.iload_n 0, 1) := by decide +kernel
theorem dX8_isBelow_5 : decode cX8_isBelow 5 = .ok (.iload_n 1, 1) := by decide +kernel
theorem dX8_isBelow_6 : decode cX8_isBelow 6 = .ok (.if_icmp .ge 7, 3) := by decide +kernel
theorem dX8_isBelow_9 : decode cX8_isBelow 9 = .ok (.iconst 1, 1) := by decide +kernel
theorem dX8_isBelow_10 : decode cX8_isBelow 10 = .ok (.goto 4, 3) := by decide +kernel
theorem dX8_isBelow_13 : decode cX8_isBelow 13 = .ok (.iconst 0, 1) := by decide +kernel
theorem dX8_isBelow_14 : decode cX8_isBelow 14 = .ok (.ireturn, 1) := by decide +kernel
theorem dX8_isUpTo_0 : decode cX8_isUpTo 0 = .ok (.iload_n 0, 1) := by decide +kernel
theorem dX8_isUpTo_1 : decode cX8_isUpTo 1 = .ok (.ifCond .lt 12, 3) := by decide +kernel
theorem dX8_isUpTo_4 : decode cX8_isUpTo 4 = .ok (.iload_n 0, 1) := by decide +kernel
theorem dX8_isUpTo_5 : decode cX8_isUpTo 5 = .ok (.iload_n 1, 1) := by decide +kernel
theorem dX8_isUpTo_6 : decode cX8_isUpTo 6 = .ok (.if_icmp .gt 7, 3) := by decide +kernel
theorem dX8_isUpTo_9 : decode cX8_isUpTo 9 = .ok (.iconst 1, 1) := by decide +kernel
theorem dX8_isUpTo_10 : decode cX8_isUpTo 10 = .ok (.goto 4, 3) := by decide +kernel
theorem dX8_isUpTo_13 : decode cX8_isUpTo 13 = .ok (.iconst 0, 1) := by decide +kernel
theorem dX8_isUpTo_14 : decode cX8_isUpTo 14 = .ok (.ireturn, 1) := by decide +kernel
theorem dX8_isInterval_0 : decode cX8_isInterval 0 = .ok (.iload_n 0, 1) := by decide +kernel
theorem dX8_isInterval_1 : decode cX8_isInterval 1 = .ok (.ldc 115, 2) := by decide +kernel
theorem dX8_isInterval_3 : decode cX8_isInterval 3 = .ok (.invokestatic 83, 3) := by decide +kernel
theorem dX8_isInterval_6 : decode cX8_isInterval 6 = .ok (.ireturn, 1) := by decide +kernel
theorem dX8_isDay_0 : decode cX8_isDay 0 = .ok (.iload_n 0, 1) := by decide +kernel
theorem dX8_isDay_1 : decode cX8_isDay 1 = .ok (.sipush 30000, 3) := by decide +kernel
theorem dX8_isDay_4 : decode cX8_isDay 4 = .ok (.invokestatic 83, 3) := by decide +kernel
theorem dX8_isDay_7 : decode cX8_isDay 7 = .ok (.ireturn, 1) := by decide +kernel
theorem dX8_isPoint_0 : decode cX8_isPoint 0 = .ok (.iload_n 0, 1) := by decide +kernel
theorem dX8_isPoint_1 : decode cX8_isPoint 1 = .ok (.ldc 253, 2) := by decide +kernel
theorem dX8_isPoint_3 : decode cX8_isPoint 3 = .ok (.invokestatic 83, 3) := by decide +kernel
theorem dX8_isPoint_6 : decode cX8_isPoint 6 = .ok (.ireturn, 1) := by decide +kernel
theorem dX8_lastPointOf_0 : decode cX8_lastPointOf 0 = .ok (.iload_n 0, 1) := by decide +kernel
theorem dX8_lastPointOf_1 : decode cX8_lastPointOf 1 = .ok (.bipush 100, 2) := by decide +kernel
theorem dX8_lastPointOf_3 : decode cX8_lastPointOf 3 = .ok (.imul, 1) := by decide +kernel
theorem dX8_lastPointOf_4 : decode cX8_lastPointOf 4 = .ok (.bipush 100, 2) := by decide +kernel
theorem dX8_lastPointOf_6 : decode cX8_lastPointOf 6 = .ok (.iadd, 1) := by decide +kernel
theorem dX8_lastPointOf_7 : decode cX8_lastPointOf 7 = .ok (.iconst 1, 1) := by decide +kernel
theorem dX8_lastPointOf_8 : decode cX8_lastPointOf 8 = .ok (.isub, 1) := by decide +kernel
theorem dX8_lastPointOf_9 : decode cX8_lastPointOf 9 = .ok (.ireturn, 1) := by decide +kernel
theorem dJ9_max_7cf53_0 : decode cJ9_max_7cf53 0 = .ok (.iload_n 0, 1) := by decide +kernel
theorem dJ9_max_7cf53_1 : decode cJ9_max_7cf53 1 = .ok (.iload_n 1, 1) := by decide +kernel
theorem dJ9_max_7cf53_2 : decode cJ9_max_7cf53 2 = .ok (.if_icmp .lt 7, 3) := by decide +kernel
theorem dJ9_max_7cf53_5 : decode cJ9_max_7cf53 5 = .ok (.iload_n 0, 1) := by decide +kernel
theorem dJ9_max_7cf53_6 : decode cJ9_max_7cf53 6 = .ok (.goto 4, 3) := by decide +kernel
theorem dJ9_max_7cf53_9 : decode cJ9_max_7cf53 9 = .ok (.iload_n 1, 1) := by decide +kernel
theorem dJ9_max_7cf53_10 : decode cJ9_max_7cf53 10 = .ok (.ireturn, 1) := by decide +kernel
theorem dJ9_min_7cf53_0 : decode cJ9_min_7cf53 0 = .ok (.iload_n 0, 1) := by decide +kernel
theorem dJ9_min_7cf53_1 : decode cJ9_min_7cf53 1 = .ok (.iload_n 1, 1) := by decide +kernel
theorem dJ9_min_7cf53_2 : decode cJ9_min_7cf53 2 = .ok (.if_icmp .gt 7, 3) := by decide +kernel
theorem dJ9_min_7cf53_5 : decode cJ9_min_7cf53 5 = .ok (.iload_n 0, 1) := by decide +kernel
theorem dJ9_min_7cf53_6 : decode cJ9_min_7cf53 6 = .ok (.goto 4, 3) := by decide +kernel
theorem dJ9_min_7cf53_9 : decode cJ9_min_7cf53 9 = .ok (.iload_n 1, 1) := by decide +kernel
theorem dJ9_min_7cf53_10 : decode cJ9_min_7cf53 10 = .ok (.ireturn, 1) := by decide +kernel
theorem dJ7_fill_53178_0 : decode cJ7_fill_53178 0 = .ok (.iconst 0, 1) := by decide +kernel
theorem dJ7_fill_53178_1 : decode cJ7_fill_53178 1 = .ok (.istore_n 2, 1) := by decide +kernel
theorem dJ7_fill_53178_2 : decode cJ7_fill_53178 2 = .ok (.aload_n 0, 1) := by decide +kernel
theorem dJ7_fill_53178_3 : decode cJ7_fill_53178 3 = .ok (.arraylength, 1) := by decide +kernel
theorem dJ7_fill_53178_4 : decode cJ7_fill_53178 4 = .ok (.istore_n 3, 1) := by decide +kernel
theorem dJ7_fill_53178_5 : decode cJ7_fill_53178 5 = .ok (.iload_n 2, 1) := by decide +kernel
theorem dJ7_fill_53178_6 : decode cJ7_fill_53178 6 = .ok (.iload_n 3, 1) := by decide +kernel
theorem dJ7_fill_53178_7 : decode cJ7_fill_53178 7 = .ok (.if_icmp .ge 13, 3) := by decide +kernel
theorem dJ7_fill_53178_10 : decode cJ7_fill_53178 10 = .ok (.aload_n 0, 1) := by decide +kernel
theorem dJ7_fill_53178_11 : decode cJ7_fill_53178 11 = .ok (.iload_n 2, 1) := by decide +kernel
theorem dJ7_fill_53178_12 : decode cJ7_fill_53178 12 = .ok (.iload_n 1, 1) := by decide +kernel
theorem dJ7_fill_53178_13 : decode cJ7_fill_53178 13 = .ok (.iastore, 1) := by decide +kernel
theorem dJ7_fill_53178_14 : decode cJ7_fill_53178 14 = .ok (.iinc 2 1, 3) := by decide +kernel
theorem dJ7_fill_53178_17 : decode cJ7_fill_53178 17 = .ok (.goto (-12), 3) := by decide +kernel
theorem dJ7_fill_53178_20 : decode cJ7_fill_53178 20 = .ok (.return_, 1) := by decide +kernel
