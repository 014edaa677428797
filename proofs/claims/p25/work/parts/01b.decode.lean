theorem dX0_init_0 : decode cX0_init 0 = .ok (.aload_n 0, 1) := by decide +kernel
theorem dX0_init_1 : decode cX0_init 1 = .ok (.invokespecial 3, 3) := by decide +kernel
theorem dX0_init_4 : decode cX0_init 4 = .ok (.aload_n 0, 1) := by decide +kernel
theorem dX0_init_5 : decode cX0_init 5 = .ok (.iconst (-1), 1) := by decide +kernel
theorem dX0_init_6 : decode cX0_init 6 = .ok (.putfield 9, 3) := by decide +kernel
theorem dX0_init_9 : decode cX0_init 9 = .ok (.aload_n 0, 1) := by decide +kernel
theorem dX0_init_10 : decode cX0_init 10 = .ok (.iload_n 1, 1) := by decide +kernel
theorem dX0_init_11 : decode cX0_init 11 = .ok (.putfield 15, 3) := by decide +kernel
theorem dX0_init_14 : decode cX0_init 14 = .ok (.aload_n 0, 1) := by decide +kernel
theorem dX0_init_15 : decode cX0_init 15 = .ok (.iload_n 2, 1) := by decide +kernel
theorem dX0_init_16 : decode cX0_init 16 = .ok (.putfield 18, 3) := by decide +kernel
theorem dX0_init_19 : decode cX0_init 19 = .ok (.aload_n 0, 1) := by decide +kernel
theorem dX0_init_20 : decode cX0_init 20 = .ok (.iload_n 3, 1) := by decide +kernel
theorem dX0_init_21 : decode cX0_init 21 = .ok (.putfield 21, 3) := by decide +kernel
theorem dX0_init_24 : decode cX0_init 24 = .ok (.aload_n 0, 1) := by decide +kernel
theorem dX0_init_25 : decode cX0_init 25 = .ok (.iload 4, 2) := by decide +kernel
theorem dX0_init_27 : decode cX0_init 27 = .ok (.putfield 24, 3) := by decide +kernel
theorem dX0_init_30 : decode cX0_init 30 = .ok (.return_, 1) := by decide +kernel
theorem dX1_init_0 : decode cX1_init 0 = .ok (.aload_n 0, 1) := by decide +kernel
theorem dX1_init_1 : decode cX1_init 1 = .ok (.invokespecial 3, 3) := by decide +kernel
theorem dX1_init_4 : decode cX1_init 4 = .ok (.aload_n 0, 1) := by decide +kernel
theorem dX1_init_5 : decode cX1_init 5 = .ok (.bipush 10, 2) := by decide +kernel
theorem dX1_init_7 : decode cX1_init 7 = .ok (.putfield 9, 3) := by decide +kernel
theorem dX1_init_10 : decode cX1_init 10 = .ok (.aload_n 0, 1) := by decide +kernel
theorem dX1_init_11 : decode cX1_init 11 = .ok (.bipush 40, 2) := by decide +kernel
theorem dX1_init_13 : decode cX1_init 13 = .ok (.anewarray 15, 3) := by decide +kernel
theorem dX1_init_16 : decode cX1_init 16 = .ok (.putfield 17, 3) := by decide +kernel
theorem dX1_init_19 : decode cX1_init 19 = .ok (.aload_n 0, 1) := by decide +kernel
theorem dX1_init_20 : decode cX1_init 20 = .ok (.bipush 40, 2) := by decide +kernel
theorem dX1_init_22 : decode cX1_init 22 = .ok (.newarray .boolean, 2) := by decide +kernel
theorem dX1_init_24 : decode cX1_init 24 = .ok (.putfield 21, 3) := by decide +kernel
theorem dX1_init_27 : decode cX1_init 27 = .ok (.aload_n 0, 1) := by decide +kernel
theorem dX1_init_28 : decode cX1_init 28 = .ok (.iconst 0, 1) := by decide +kernel
theorem dX1_init_29 : decode cX1_init 29 = .ok (.putfield 25, 3) := by decide +kernel
theorem dX1_init_32 : decode cX1_init 32 = .ok (.aload_n 0, 1) := by decide +kernel
theorem dX1_init_33 : decode cX1_init 33 = .ok (.new 28, 3) := by decide +kernel
theorem dX1_init_36 : decode cX1_init 36 = .ok (.dup, 1) := by decide +kernel
theorem dX1_init_37 : decode cX1_init 37 = .ok (.invokespecial 30, 3) := by decide +kernel
theorem dX1_init_40 : decode cX1_init 40 = .ok (.putfield 31, 3) := by decide +kernel
theorem dX1_init_43 : decode cX1_init 43 = .ok (.aload_n 0, 1) := by decide +kernel
theorem dX1_init_44 : decode cX1_init 44 = .ok (.iconst 0, 1) := by decide +kernel
theorem dX1_init_45 : decode cX1_init 45 = .ok (.putfield 35, 3) := by decide +kernel
theorem dX1_init_48 : decode cX1_init 48 = .ok (.aload_n 0, 1) := by decide +kernel
theorem dX1_init_49 : decode cX1_init 49 = .ok (.new 28, 3) := by decide +kernel
theorem dX1_init_52 : decode cX1_init 52 = .ok (.dup, 1) := by decide +kernel
theorem dX1_init_53 : decode cX1_init 53 = .ok (.invokespecial 30, 3) := by decide +kernel
theorem dX1_init_56 : decode cX1_init 56 = .ok (.putfield 38, 3) := by decide +kernel
theorem dX1_init_59 : decode cX1_init 59 = .ok (.aload_n 0, 1) := by decide +kernel
theorem dX1_init_60 : decode cX1_init 60 = .ok (.iconst 0, 1) := by decide +kernel
theorem dX1_init_61 : decode cX1_init 61 = .ok (.putfield 41, 3) := by decide +kernel
theorem dX1_init_64 : decode cX1_init 64 = .ok (.aload_n 0, 1) := by decide +kernel
theorem dX1_init_65 : decode cX1_init 65 = .ok (.new 28, 3) := by decide +kernel
theorem dX1_init_68 : decode cX1_init 68 = .ok (.dup, 1) := by decide +kernel
theorem dX1_init_69 : decode cX1_init 69 = .ok (.invokespecial 30, 3) := by decide +kernel
theorem dX1_init_72 : decode cX1_init 72 = .ok (.putfield 44, 3) := by decide +kernel
theorem dX1_init_75 : decode cX1_init 75 = .ok (.return_, 1) := by decide +kernel
theorem dX1_madeJob_0 : decode cX1_madeJob 0 = .ok (.iload_n 1, 1) := by decide +kernel
theorem dX1_madeJob_1 : decode cX1_madeJob 1 = .ok (.sipush 1000, 3) := by decide +kernel
theorem dX1_madeJob_4 : decode cX1_madeJob 4 = .ok (.if_icmp .lt 18, 3) := by decide +kernel
theorem dX1_madeJob_7 : decode cX1_madeJob 7 = .ok (.iload_n 1, 1) := by decide +kernel
theorem dX1_madeJob_8 : decode cX1_madeJob 8 = .ok (.sipush 1000, 3) := by decide +kernel
theorem dX1_madeJob_11 : decode cX1_madeJob 11 = .ok (.isub, 1) := by decide +kernel
theorem dX1_madeJob_12 : decode cX1_madeJob 12 = .ok (.aload_n 0, 1) := by decide +kernel
theorem dX1_madeJob_13 : decode cX1_madeJob 13 = .ok (.getfield 31, 3) := by decide +kernel
theorem dX1_madeJob_16 : decode cX1_madeJob 16 = .ok (.invokevirtual 47, 3) := by decide +kernel
theorem dX1_madeJob_19 : decode cX1_madeJob 19 = .ok (.if_icmp .lt 5, 3) := by decide +kernel
theorem dX1_madeJob_22 : decode cX1_madeJob 22 = .ok (.aconst_null, 1) := by decide +kernel
theorem dX1_madeJob_23 : decode cX1_madeJob 23 = .ok (.areturn, 1) := by decide +kernel
theorem dX1_madeJob_24 : decode cX1_madeJob 24 = .ok (.aload_n 0, 1) := by decide +kernel
theorem dX1_madeJob_25 : decode cX1_madeJob 25 = .ok (.getfield 31, 3) := by decide +kernel
theorem dX1_madeJob_28 : decode cX1_madeJob 28 = .ok (.iload_n 1, 1) := by decide +kernel
theorem dX1_madeJob_29 : decode cX1_madeJob 29 = .ok (.sipush 1000, 3) := by decide +kernel
theorem dX1_madeJob_32 : decode cX1_madeJob 32 = .ok (.isub, 1) := by decide +kernel
theorem dX1_madeJob_33 : decode cX1_madeJob 33 = .ok (.invokevirtual 51, 3) := by decide +kernel
theorem dX1_madeJob_36 : decode cX1_madeJob 36 = .ok (.checkcast 55, 3) := by decide +kernel
theorem dX1_madeJob_39 : decode cX1_madeJob 39 = .ok (.areturn, 1) := by decide +kernel
theorem dX1_centralNumber_0 : decode cX1_centralNumber 0 = .ok (.aload_n 0, 1) := by decide +kernel
theorem dX1_centralNumber_1 : decode cX1_centralNumber 1 = .ok (.iload_n 1, 1) := by decide +kernel
theorem dX1_centralNumber_2 : decode cX1_centralNumber 2 = .ok (.invokevirtual 57, 3) := by decide +kernel
theorem dX1_centralNumber_5 : decode cX1_centralNumber 5 = .ok (.astore_n 2, 1) := by decide +kernel
theorem dX1_centralNumber_6 : decode cX1_centralNumber 6 = .ok (.aload_n 2, 1) := by decide +kernel
theorem dX1_centralNumber_7 : decode cX1_centralNumber 7 = .ok (.ifnonnull 7, 3) := by decide +kernel
theorem dX1_centralNumber_10 : decode cX1_centralNumber 10 = .ok (.iload_n 1, 1) := by decide +kernel
theorem dX1_centralNumber_11 : decode cX1_centralNumber 11 = .ok (.goto 7, 3) := by decide +kernel
theorem dX1_centralNumber_14 : decode cX1_centralNumber 14 = .ok (.aload_n 2, 1) := by decide +kernel
theorem dX1_centralNumber_15 : decode cX1_centralNumber 15 = .ok (.getfield 61, 3) := by decide +kernel
theorem dX1_centralNumber_18 : decode cX1_centralNumber 18 = .ok (.ireturn, 1) := by decide +kernel
theorem dX1_heldFields_0 : decode cX1_heldFields 0 = .ok (.aload_n 0, 1) := by decide +kernel
theorem dX1_heldFields_1 : decode cX1_heldFields 1 = .ok (.iload_n 1, 1) := by decide +kernel
theorem dX1_heldFields_2 : decode cX1_heldFields 2 = .ok (.invokevirtual 57, 3) := by decide +kernel
theorem dX1_heldFields_5 : decode cX1_heldFields 5 = .ok (.astore_n 2, 1) := by decide +kernel
theorem dX1_heldFields_6 : decode cX1_heldFields 6 = .ok (.aload_n 2, 1) := by decide +kernel
theorem dX1_heldFields_7 : decode cX1_heldFields 7 = .ok (.ifnull 16, 3) := by decide +kernel
theorem dX1_heldFields_10 : decode cX1_heldFields 10 = .ok (.aload_n 2, 1) := by decide +kernel
theorem dX1_heldFields_11 : decode cX1_heldFields 11 = .ok (.getfield 61, 3) := by decide +kernel
theorem dX1_heldFields_14 : decode cX1_heldFields 14 = .ok (.iconst (-1), 1) := by decide +kernel
theorem dX1_heldFields_15 : decode cX1_heldFields 15 = .ok (.if_icmp .ne 8, 3) := by decide +kernel
theorem dX1_heldFields_18 : decode cX1_heldFields 18 = .ok (.aload_n 2, 1) := by decide +kernel
theorem dX1_heldFields_19 : decode cX1_heldFields 19 = .ok (.getfield 64, 3) := by decide +kernel
theorem dX1_heldFields_22 : decode cX1_heldFields 22 = .ok (.areturn, 1) := by decide +kernel
theorem dX1_heldFields_23 : decode cX1_heldFields 23 = .ok (.aload_n 2, 1) := by decide +kernel
theorem dX1_heldFields_24 : decode cX1_heldFields 24 = .ok (.ifnonnull 7, 3) := by decide +kernel
theorem dX1_heldFields_27 : decode cX1_heldFields 27 = .ok (.iload_n 1, 1) := by decide +kernel
theorem dX1_heldFields_28 : decode cX1_heldFields 28 = .ok (.goto 7, 3) := by decide +kernel
theorem dX1_heldFields_31 : decode cX1_heldFields 31 = .ok (.aload_n 2, 1) := by decide +kernel
theorem dX1_heldFields_32 : decode cX1_heldFields 32 = .ok (.getfield 61, 3) := by decide +kernel
theorem dX1_heldFields_35 : decode cX1_heldFields 35 = .ok (.istore_n 3, 1) := by decide +kernel
theorem dX1_heldFields_36 : decode cX1_heldFields 36 = .ok (.iload_n 3, 1) := by decide +kernel
theorem dX1_heldFields_37 : decode cX1_heldFields 37 = .ok (.ifCond .lt 18, 3) := by decide +kernel
theorem dX1_heldFields_40 : decode cX1_heldFields 40 = .ok (.iload_n 3, 1) := by decide +kernel
theorem dX1_heldFields_41 : decode cX1_heldFields 41 = .ok (.bipush 40, 2) := by decide +kernel
theorem dX1_heldFields_43 : decode cX1_heldFields 43 = .ok (.if_icmp .ge 12, 3) := by decide +kernel
theorem dX1_heldFields_46 : decode cX1_heldFields 46 = .ok (.aload_n 0, 1) := by decide +kernel
theorem dX1_heldFields_47 : decode cX1_heldFields 47 = .ok (.getfield 21, 3) := by decide +kernel
theorem dX1_heldFields_50 : decode cX1_heldFields 50 = .ok (.iload_n 3, 1) := by decide +kernel
theorem dX1_heldFields_51 : decode cX1_heldFields 51 = .ok (.baload, 1) := by decide +kernel
theorem dX1_heldFields_52 : decode cX1_heldFields 52 = .ok (.ifCond .ne 5, 3) := by decide +kernel
theorem dX1_heldFields_55 : decode cX1_heldFields 55 = .ok (.aconst_null, 1) := by decide +kernel
theorem dX1_heldFields_56 : decode cX1_heldFields 56 = .ok (.areturn, 1) := by decide +kernel
theorem dX1_heldFields_57 : decode cX1_heldFields 57 = .ok (.aload_n 0, 1) := by decide +kernel
theorem dX1_heldFields_58 : decode cX1_heldFields 58 = .ok (.getfield 17, 3) := by decide +kernel
theorem dX1_heldFields_61 : decode cX1_heldFields 61 = .ok (.iload_n 3, 1) := by decide +kernel
theorem dX1_heldFields_62 : decode cX1_heldFields 62 = .ok (.aaload, 1) := by decide +kernel
theorem dX1_heldFields_63 : decode cX1_heldFields 63 = .ok (.areturn, 1) := by decide +kernel
theorem dX1_heldCount_0 : decode cX1_heldCount 0 = .ok (.aload_n 0, 1) := by decide +kernel
theorem dX1_heldCount_1 : decode cX1_heldCount 1 = .ok (.getfield 25, 3) := by decide +kernel
theorem dX1_heldCount_4 : decode cX1_heldCount 4 = .ok (.aload_n 0, 1) := by decide +kernel
theorem dX1_heldCount_5 : decode cX1_heldCount 5 = .ok (.getfield 35, 3) := by decide +kernel
theorem dX1_heldCount_8 : decode cX1_heldCount 8 = .ok (.iadd, 1) := by decide +kernel
theorem dX1_heldCount_9 : decode cX1_heldCount 9 = .ok (.ireturn, 1) := by decide +kernel
theorem dX1_dropCopies_0 : decode cX1_dropCopies 0 = .ok (.iconst 0, 1) := by decide +kernel
theorem dX1_dropCopies_1 : decode cX1_dropCopies 1 = .ok (.istore_n 1, 1) := by decide +kernel
theorem dX1_dropCopies_2 : decode cX1_dropCopies 2 = .ok (.iload_n 1, 1) := by decide +kernel
theorem dX1_dropCopies_3 : decode cX1_dropCopies 3 = .ok (.bipush 40, 2) := by decide +kernel
theorem dX1_dropCopies_5 : decode cX1_dropCopies 5 = .ok (.if_icmp .ge 16, 3) := by decide +kernel
theorem dX1_dropCopies_8 : decode cX1_dropCopies 8 = .ok (.aload_n 0, 1) := by decide +kernel
theorem dX1_dropCopies_9 : decode cX1_dropCopies 9 = .ok (.getfield 21, 3) := by decide +kernel
theorem dX1_dropCopies_12 : decode cX1_dropCopies 12 = .ok (.iload_n 1, 1) := by decide +kernel
theorem dX1_dropCopies_13 : decode cX1_dropCopies 13 = .ok (.iconst 0, 1) := by decide +kernel
theorem dX1_dropCopies_14 : decode cX1_dropCopies 14 = .ok (.bastore, 1) := by decide +kernel
theorem dX1_dropCopies_15 : decode cX1_dropCopies 15 = .ok (.iinc 1 1, 3) := by decide +kernel
theorem dX1_dropCopies_18 : decode cX1_dropCopies 18 = .ok (.goto (-16), 3) := by decide +kernel
theorem dX1_dropCopies_21 : decode cX1_dropCopies 21 = .ok (.aload_n 0, 1) := by decide +kernel
theorem dX1_dropCopies_22 : decode cX1_dropCopies 22 = .ok (.iconst 0, 1) := by decide +kernel
theorem dX1_dropCopies_23 : decode cX1_dropCopies 23 = .ok (.putfield 25, 3) := by decide +kernel
theorem dX1_dropCopies_26 : decode cX1_dropCopies 26 = .ok (.return_, 1) := by decide +kernel
theorem dX1_hold_0 : decode cX1_hold 0 = .ok (.iload_n 1, 1) := by decide +kernel
theorem dX1_hold_1 : decode cX1_hold 1 = .ok (.ifCond .lt 9, 3) := by decide +kernel
theorem dX1_hold_4 : decode cX1_hold 4 = .ok (.iload_n 1, 1) := by decide +kernel
theorem dX1_hold_5 : decode cX1_hold 5 = .ok (.bipush 40, 2) := by decide +kernel
theorem dX1_hold_7 : decode cX1_hold 7 = .ok (.if_icmp .lt 4, 3) := by decide +kernel
theorem dX1_hold_10 : decode cX1_hold 10 = .ok (.return_, 1) := by decide +kernel
theorem dX1_hold_11 : decode cX1_hold 11 = .ok (.aload_n 0, 1) := by decide +kernel
theorem dX1_hold_12 : decode cX1_hold 12 = .ok (.getfield 17, 3) := by decide +kernel
theorem dX1_hold_15 : decode cX1_hold 15 = .ok (.iload_n 1, 1) := by decide +kernel
theorem dX1_hold_16 : decode cX1_hold 16 = .ok (.aaload, 1) := by decide +kernel
theorem dX1_hold_17 : decode cX1_hold 17 = .ok (.astore_n 3, 1) := by decide +kernel
theorem dX1_hold_18 : decode cX1_hold 18 = .ok (.aload_n 3, 1) := by decide +kernel
theorem dX1_hold_19 : decode cX1_hold 19 = .ok (.ifnonnull 18, 3) := by decide +kernel
theorem dX1_hold_22 : decode cX1_hold 22 = .ok (.new 15, 3) := by decide +kernel
theorem dX1_hold_25 : decode cX1_hold 25 = .ok (.dup, 1) := by decide +kernel
theorem dX1_hold_26 : decode cX1_hold 26 = .ok (.invokespecial 68, 3) := by decide +kernel
theorem dX1_hold_29 : decode cX1_hold 29 = .ok (.astore_n 3, 1) := by decide +kernel
theorem dX1_hold_30 : decode cX1_hold 30 = .ok (.aload_n 0, 1) := by decide +kernel
theorem dX1_hold_31 : decode cX1_hold 31 = .ok (.getfield 17, 3) := by decide +kernel
theorem dX1_hold_34 : decode cX1_hold 34 = .ok (.iload_n 1, 1) := by decide +kernel
theorem dX1_hold_35 : decode cX1_hold 35 = .ok (.aload_n 3, 1) := by decide +kernel
theorem dX1_hold_36 : decode cX1_hold 36 = .ok (.aastore, 1) := by decide +kernel
theorem dX1_hold_37 : decode cX1_hold 37 = .ok (.aload_n 3, 1) := by decide +kernel
theorem dX1_hold_38 : decode cX1_hold 38 = .ok (.aload_n 2, 1) := by decide +kernel
theorem dX1_hold_39 : decode cX1_hold 39 = .ok (.invokevirtual 69, 3) := by decide +kernel
theorem dX1_hold_42 : decode cX1_hold 42 = .ok (.aload_n 0, 1) := by decide +kernel
theorem dX1_hold_43 : decode cX1_hold 43 = .ok (.getfield 21, 3) := by decide +kernel
theorem dX1_hold_46 : decode cX1_hold 46 = .ok (.iload_n 1, 1) := by decide +kernel
theorem dX1_hold_47 : decode cX1_hold 47 = .ok (.baload, 1) := by decide +kernel
theorem dX1_hold_48 : decode cX1_hold 48 = .ok (.ifCond .ne 20, 3) := by decide +kernel
theorem dX1_hold_51 : decode cX1_hold 51 = .ok (.aload_n 0, 1) := by decide +kernel
theorem dX1_hold_52 : decode cX1_hold 52 = .ok (.getfield 21, 3) := by decide +kernel
theorem dX1_hold_55 : decode cX1_hold 55 = .ok (.iload_n 1, 1) := by decide +kernel
theorem dX1_hold_56 : decode cX1_hold 56 = .ok (.iconst 1, 1) := by decide +kernel
theorem dX1_hold_57 : decode cX1_hold 57 = .ok (.bastore, 1) := by decide +kernel
theorem dX1_hold_58 : decode cX1_hold 58 = .ok (.aload_n 0, 1) := by decide +kernel
theorem dX1_hold_59 : decode cX1_hold 59 = .ok (.dup, 1) := by decide +kernel
theorem dX1_hold_60 : decode cX1_hold 60 = .ok (.getfield 25, 3) := by decide +kernel
theorem dX1_hold_63 : decode cX1_hold 63 = .ok (.iconst 1, 1) := by decide +kernel
theorem dX1_hold_64 : decode cX1_hold 64 = .ok (.iadd, 1) := by decide +kernel
theorem dX1_hold_65 : decode cX1_hold 65 = .ok (.putfield 25, 3) := by decide +kernel
theorem dX1_hold_68 : decode cX1_hold 68 = .ok (.return_, 1) := by decide +kernel
theorem dX1_giveNumber_0 : decode cX1_giveNumber 0 = .ok (.aload_n 1, 1) := by decide +kernel
theorem dX1_giveNumber_1 : decode cX1_giveNumber 1 = .ok (.iload_n 2, 1) := by decide +kernel
theorem dX1_giveNumber_2 : decode cX1_giveNumber 2 = .ok (.putfield 61, 3) := by decide +kernel
theorem dX1_giveNumber_5 : decode cX1_giveNumber 5 = .ok (.aload_n 0, 1) := by decide +kernel
theorem dX1_giveNumber_6 : decode cX1_giveNumber 6 = .ok (.dup, 1) := by decide +kernel
theorem dX1_giveNumber_7 : decode cX1_giveNumber 7 = .ok (.getfield 35, 3) := by decide +kernel
theorem dX1_giveNumber_10 : decode cX1_giveNumber 10 = .ok (.iconst 1, 1) := by decide +kernel
theorem dX1_giveNumber_11 : decode cX1_giveNumber 11 = .ok (.isub, 1) := by decide +kernel
theorem dX1_giveNumber_12 : decode cX1_giveNumber 12 = .ok (.putfield 35, 3) := by decide +kernel
theorem dX1_giveNumber_15 : decode cX1_giveNumber 15 = .ok (.aload_n 0, 1) := by decide +kernel
theorem dX1_giveNumber_16 : decode cX1_giveNumber 16 = .ok (.iload_n 2, 1) := by decide +kernel
theorem dX1_giveNumber_17 : decode cX1_giveNumber 17 = .ok (.aload_n 1, 1) := by decide +kernel
theorem dX1_giveNumber_18 : decode cX1_giveNumber 18 = .ok (.getfield 64, 3) := by decide +kernel
theorem dX1_giveNumber_21 : decode cX1_giveNumber 21 = .ok (.invokevirtual 73, 3) := by decide +kernel
theorem dX1_giveNumber_24 : decode cX1_giveNumber 24 = .ok (.return_, 1) := by decide +kernel
theorem dX1_takesActs_0 : decode cX1_takesActs 0 = .ok (.aload_n 0, 1) := by decide +kernel
theorem dX1_takesActs_1 : decode cX1_takesActs 1 = .ok (.getfield 38, 3) := by decide +kernel
theorem dX1_takesActs_4 : decode cX1_takesActs 4 = .ok (.invokevirtual 47, 3) := by decide +kernel
theorem dX1_takesActs_7 : decode cX1_takesActs 7 = .ok (.sipush 512, 3) := by decide +kernel
theorem dX1_takesActs_10 : decode cX1_takesActs 10 = .ok (.if_icmp .ge 7, 3) := by decide +kernel
theorem dX1_takesActs_13 : decode cX1_takesActs 13 = .ok (.iconst 1, 1) := by decide +kernel
theorem dX1_takesActs_14 : decode cX1_takesActs 14 = .ok (.goto 4, 3) := by decide +kernel
theorem dX1_takesActs_17 : decode cX1_takesActs 17 = .ok (.iconst 0, 1) := by decide +kernel
theorem dX1_takesActs_18 : decode cX1_takesActs 18 = .ok (.ireturn, 1) := by decide +kernel
theorem dX1_waitingCount_0 : decode cX1_waitingCount 0 = .ok (.aload_n 0, 1) := by decide +kernel
theorem dX1_waitingCount_1 : decode cX1_waitingCount 1 = .ok (.getfield 38, 3) := by decide +kernel
theorem dX1_waitingCount_4 : decode cX1_waitingCount 4 = .ok (.invokevirtual 47, 3) := by decide +kernel
theorem dX1_waitingCount_7 : decode cX1_waitingCount 7 = .ok (.aload_n 0, 1) := by decide +kernel
theorem dX1_waitingCount_8 : decode cX1_waitingCount 8 = .ok (.getfield 41, 3) := by decide +kernel
theorem dX1_waitingCount_11 : decode cX1_waitingCount 11 = .ok (.isub, 1) := by decide +kernel
theorem dX1_waitingCount_12 : decode cX1_waitingCount 12 = .ok (.ireturn, 1) := by decide +kernel
theorem dX1_makeJob_0 : decode cX1_makeJob 0 = .ok (.sipush 1000, 3) := by decide +kernel
theorem dX1_makeJob_3 : decode cX1_makeJob 3 = .ok (.aload_n 0, 1) := by decide +kernel
theorem dX1_makeJob_4 : decode cX1_makeJob 4 = .ok (.getfield 31, 3) := by decide +kernel
theorem dX1_makeJob_7 : decode cX1_makeJob 7 = .ok (.invokevirtual 47, 3) := by decide +kernel
theorem dX1_makeJob_10 : decode cX1_makeJob 10 = .ok (.iadd, 1) := by decide +kernel
theorem dX1_makeJob_11 : decode cX1_makeJob 11 = .ok (.istore_n 2, 1) := by decide +kernel
theorem dX1_makeJob_12 : decode cX1_makeJob 12 = .ok (.aload_n 0, 1) := by decide +kernel
theorem dX1_makeJob_13 : decode cX1_makeJob 13 = .ok (.getfield 31, 3) := by decide +kernel
theorem dX1_makeJob_16 : decode cX1_makeJob 16 = .ok (.new 55, 3) := by decide +kernel
theorem dX1_makeJob_19 : decode cX1_makeJob 19 = .ok (.dup, 1) := by decide +kernel
theorem dX1_makeJob_20 : decode cX1_makeJob 20 = .ok (.invokespecial 77, 3) := by decide +kernel
theorem dX1_makeJob_23 : decode cX1_makeJob 23 = .ok (.invokevirtual 78, 3) := by decide +kernel
theorem dX1_makeJob_26 : decode cX1_makeJob 26 = .ok (.pop, 1) := by decide +kernel
theorem dX1_makeJob_27 : decode cX1_makeJob 27 = .ok (.aload_n 0, 1) := by decide +kernel
theorem dX1_makeJob_28 : decode cX1_makeJob 28 = .ok (.dup, 1) := by decide +kernel
theorem dX1_makeJob_29 : decode cX1_makeJob 29 = .ok (.getfield 35, 3) := by decide +kernel
theorem dX1_makeJob_32 : decode cX1_makeJob 32 = .ok (.iconst 1, 1) := by decide +kernel
theorem dX1_makeJob_33 : decode cX1_makeJob 33 = .ok (.iadd, 1) := by decide +kernel
theorem dX1_makeJob_34 : decode cX1_makeJob 34 = .ok (.putfield 35, 3) := by decide +kernel
theorem dX1_makeJob_37 : decode cX1_makeJob 37 = .ok (.aload_n 0, 1) := by decide +kernel
theorem dX1_makeJob_38 : decode cX1_makeJob 38 = .ok (.getfield 38, 3) := by decide +kernel
theorem dX1_makeJob_41 : decode cX1_makeJob 41 = .ok (.new 82, 3) := by decide +kernel
theorem dX1_makeJob_44 : decode cX1_makeJob 44 = .ok (.dup, 1) := by decide +kernel
theorem dX1_makeJob_45 : decode cX1_makeJob 45 = .ok (.iload_n 2, 1) := by decide +kernel
theorem dX1_makeJob_46 : decode cX1_makeJob 46 = .ok (.iconst (-1), 1) := by decide +kernel
theorem dX1_makeJob_47 : decode cX1_makeJob 47 = .ok (.iload_n 1, 1) := by decide +kernel
theorem dX1_makeJob_48 : decode cX1_makeJob 48 = .ok (.iconst 0, 1) := by decide +kernel
theorem dX1_makeJob_49 : decode cX1_makeJob 49 = .ok (.invokespecial 84, 3) := by decide +kernel
theorem dX1_makeJob_52 : decode cX1_makeJob 52 = .ok (.invokevirtual 78, 3) := by decide +kernel
theorem dX1_makeJob_55 : decode cX1_makeJob 55 = .ok (.pop, 1) := by decide +kernel
theorem dX1_makeJob_56 : decode cX1_makeJob 56 = .ok (.iload_n 2, 1) := by decide +kernel
theorem dX1_makeJob_57 : decode cX1_makeJob 57 = .ok (.ireturn, 1) := by decide +kernel
theorem dX1_changeJob_0 : decode cX1_changeJob 0 = .ok (.aload_n 0, 1) := by decide +kernel
theorem dX1_changeJob_1 : decode cX1_changeJob 1 = .ok (.getfield 38, 3) := by decide +kernel
theorem dX1_changeJob_4 : decode cX1_changeJob 4 = .ok (.new 82, 3) := by decide +kernel
theorem dX1_changeJob_7 : decode cX1_changeJob 7 = .ok (.dup, 1) := by decide +kernel
theorem dX1_changeJob_8 : decode cX1_changeJob 8 = .ok (.iload_n 1, 1) := by decide +kernel
theorem dX1_changeJob_9 : decode cX1_changeJob 9 = .ok (.iload_n 3, 1) := by decide +kernel
theorem dX1_changeJob_10 : decode cX1_changeJob 10 = .ok (.iload 4, 2) := by decide +kernel
theorem dX1_changeJob_12 : decode cX1_changeJob 12 = .ok (.aload_n 2, 1) := by decide +kernel
theorem dX1_changeJob_13 : decode cX1_changeJob 13 = .ok (.iload_n 3, 1) := by decide +kernel
theorem dX1_changeJob_14 : decode cX1_changeJob 14 = .ok (.invokevirtual 87, 3) := by decide +kernel
theorem dX1_changeJob_17 : decode cX1_changeJob 17 = .ok (.invokespecial 84, 3) := by decide +kernel
theorem dX1_changeJob_20 : decode cX1_changeJob 20 = .ok (.invokevirtual 78, 3) := by decide +kernel
theorem dX1_changeJob_23 : decode cX1_changeJob 23 = .ok (.pop, 1) := by decide +kernel
theorem dX1_changeJob_24 : decode cX1_changeJob 24 = .ok (.aload_n 2, 1) := by decide +kernel
theorem dX1_changeJob_25 : decode cX1_changeJob 25 = .ok (.iload_n 3, 1) := by decide +kernel
theorem dX1_changeJob_26 : decode cX1_changeJob 26 = .ok (.iload 4, 2) := by decide +kernel
theorem dX1_changeJob_28 : decode cX1_changeJob 28 = .ok (.invokevirtual 91, 3) := by decide +kernel
theorem dX1_changeJob_31 : decode cX1_changeJob 31 = .ok (.return_, 1) := by decide +kernel
theorem dX1_takeAct_0 : decode cX1_takeAct 0 = .ok (.aload_n 0, 1) := by decide +kernel
theorem dX1_takeAct_1 : decode cX1_takeAct 1 = .ok (.getfield 41, 3) := by decide +kernel
theorem dX1_takeAct_4 : decode cX1_takeAct 4 = .ok (.ifCond .lt 17, 3) := by decide +kernel
theorem dX1_takeAct_7 : decode cX1_takeAct 7 = .ok (.aload_n 0, 1) := by decide +kernel
theorem dX1_takeAct_8 : decode cX1_takeAct 8 = .ok (.getfield 41, 3) := by decide +kernel
theorem dX1_takeAct_11 : decode cX1_takeAct 11 = .ok (.aload_n 0, 1) := by decide +kernel
theorem dX1_takeAct_12 : decode cX1_takeAct 12 = .ok (.getfield 38, 3) := by decide +kernel
theorem dX1_takeAct_15 : decode cX1_takeAct 15 = .ok (.invokevirtual 47, 3) := by decide +kernel
theorem dX1_takeAct_18 : decode cX1_takeAct 18 = .ok (.if_icmp .lt 5, 3) := by decide +kernel
theorem dX1_takeAct_21 : decode cX1_takeAct 21 = .ok (.aconst_null, 1) := by decide +kernel
theorem dX1_takeAct_22 : decode cX1_takeAct 22 = .ok (.areturn, 1) := by decide +kernel
theorem dX1_takeAct_23 : decode cX1_takeAct 23 = .ok (.aload_n 0, 1) := by decide +kernel
theorem dX1_takeAct_24 : decode cX1_takeAct 24 = .ok (.getfield 38, 3) := by decide +kernel
theorem dX1_takeAct_27 : decode cX1_takeAct 27 = .ok (.aload_n 0, 1) := by decide +kernel
theorem dX1_takeAct_28 : decode cX1_takeAct 28 = .ok (.getfield 41, 3) := by decide +kernel
theorem dX1_takeAct_31 : decode cX1_takeAct 31 = .ok (.invokevirtual 51, 3) := by decide +kernel
theorem dX1_takeAct_34 : decode cX1_takeAct 34 = .ok (.checkcast 82, 3) := by decide +kernel
theorem dX1_takeAct_37 : decode cX1_takeAct 37 = .ok (.astore_n 1, 1) := by decide +kernel
theorem dX1_takeAct_38 : decode cX1_takeAct 38 = .ok (.aload_n 0, 1) := by decide +kernel
theorem dX1_takeAct_39 : decode cX1_takeAct 39 = .ok (.dup, 1) := by decide +kernel
theorem dX1_takeAct_40 : decode cX1_takeAct 40 = .ok (.getfield 41, 3) := by decide +kernel
theorem dX1_takeAct_43 : decode cX1_takeAct 43 = .ok (.iconst 1, 1) := by decide +kernel
theorem dX1_takeAct_44 : decode cX1_takeAct 44 = .ok (.iadd, 1) := by decide +kernel
theorem dX1_takeAct_45 : decode cX1_takeAct 45 = .ok (.putfield 41, 3) := by decide +kernel
theorem dX1_takeAct_48 : decode cX1_takeAct 48 = .ok (.aload_n 1, 1) := by decide +kernel
theorem dX1_takeAct_49 : decode cX1_takeAct 49 = .ok (.areturn, 1) := by decide +kernel
theorem dX1_refuse_0 : decode cX1_refuse 0 = .ok (.aload_n 1, 1) := by decide +kernel
theorem dX1_refuse_1 : decode cX1_refuse 1 = .ok (.iload_n 2, 1) := by decide +kernel
theorem dX1_refuse_2 : decode cX1_refuse 2 = .ok (.putfield 95, 3) := by decide +kernel
theorem dX1_refuse_5 : decode cX1_refuse 5 = .ok (.aload_n 0, 1) := by decide +kernel
theorem dX1_refuse_6 : decode cX1_refuse 6 = .ok (.getfield 44, 3) := by decide +kernel
theorem dX1_refuse_9 : decode cX1_refuse 9 = .ok (.aload_n 1, 1) := by decide +kernel
theorem dX1_refuse_10 : decode cX1_refuse 10 = .ok (.invokevirtual 78, 3) := by decide +kernel
theorem dX1_refuse_13 : decode cX1_refuse 13 = .ok (.pop, 1) := by decide +kernel
theorem dX1_refuse_14 : decode cX1_refuse 14 = .ok (.return_, 1) := by decide +kernel
theorem dX2_init_0 : decode cX2_init 0 = .ok (.aload_n 0, 1) := by decide +kernel
theorem dX2_init_1 : decode cX2_init 1 = .ok (.invokespecial 3, 3) := by decide +kernel
theorem dX2_init_4 : decode cX2_init 4 = .ok (.aload_n 0, 1) := by decide +kernel
theorem dX2_init_5 : decode cX2_init 5 = .ok (.iconst 0, 1) := by decide +kernel
theorem dX2_init_6 : decode cX2_init 6 = .ok (.putfield 9, 3) := by decide +kernel
theorem dX2_init_9 : decode cX2_init 9 = .ok (.aload_n 0, 1) := by decide +kernel
theorem dX2_init_10 : decode cX2_init 10 = .ok (.iconst 0, 1) := by decide +kernel
theorem dX2_init_11 : decode cX2_init 11 = .ok (.putfield 15, 3) := by decide +kernel
theorem dX2_init_14 : decode cX2_init 14 = .ok (.aload_n 0, 1) := by decide +kernel
theorem dX2_init_15 : decode cX2_init 15 = .ok (.iconst 0, 1) := by decide +kernel
theorem dX2_init_16 : decode cX2_init 16 = .ok (.putfield 18, 3) := by decide +kernel
theorem dX2_init_19 : decode cX2_init 19 = .ok (.aload_n 0, 1) := by decide +kernel
theorem dX2_init_20 : decode cX2_init 20 = .ok (.iconst 0, 1) := by decide +kernel
theorem dX2_init_21 : decode cX2_init 21 = .ok (.putfield 21, 3) := by decide +kernel
theorem dX2_init_24 : decode cX2_init 24 = .ok (.return_, 1) := by decide +kernel
theorem dX2_valueOf_0 : decode cX2_valueOf 0 = .ok (.iload_n 1, 1) := by decide +kernel
theorem dX2_valueOf_1 : decode cX2_valueOf 1 = .ok (.ifCond .ne 10, 3) := by decide +kernel
theorem dX2_valueOf_4 : decode cX2_valueOf 4 = .ok (.aload_n 0, 1) := by decide +kernel
theorem dX2_valueOf_5 : decode cX2_valueOf 5 = .ok (.getfield 9, 3) := by decide +kernel
theorem dX2_valueOf_8 : decode cX2_valueOf 8 = .ok (.goto 7, 3) := by decide +kernel
theorem dX2_valueOf_11 : decode cX2_valueOf 11 = .ok (.aload_n 0, 1) := by decide +kernel
theorem dX2_valueOf_12 : decode cX2_valueOf 12 = .ok (.getfield 15, 3) := by decide +kernel
theorem dX2_valueOf_15 : decode cX2_valueOf 15 = .ok (.ireturn, 1) := by decide +kernel
theorem dX2_versionOf_0 : decode cX2_versionOf 0 = .ok (.iload_n 1, 1) := by decide +kernel
theorem dX2_versionOf_1 : decode cX2_versionOf 1 = .ok (.ifCond .ne 10, 3) := by decide +kernel
theorem dX2_versionOf_4 : decode cX2_versionOf 4 = .ok (.aload_n 0, 1) := by decide +kernel
theorem dX2_versionOf_5 : decode cX2_versionOf 5 = .ok (.getfield 18, 3) := by decide +kernel
theorem dX2_versionOf_8 : decode cX2_versionOf 8 = .ok (.goto 7, 3) := by decide +kernel
theorem dX2_versionOf_11 : decode cX2_versionOf 11 = .ok (.aload_n 0, 1) := by decide +kernel
theorem dX2_versionOf_12 : decode cX2_versionOf 12 = .ok (.getfield 21, 3) := by decide +kernel
theorem dX2_versionOf_15 : decode cX2_versionOf 15 = .ok (.ireturn, 1) := by decide +kernel
theorem dX2_put_0 : decode cX2_put 0 = .ok (.iload_n 1, 1) := by decide +kernel
theorem dX2_put_1 : decode cX2_put 1 = .ok (.ifCond .ne 21, 3) := by decide +kernel
theorem dX2_put_4 : decode cX2_put 4 = .ok (.aload_n 0, 1) := by decide +kernel
theorem dX2_put_5 : decode cX2_put 5 = .ok (.iload_n 2, 1) := by decide +kernel
theorem dX2_put_6 : decode cX2_put 6 = .ok (.putfield 9, 3) := by decide +kernel
theorem dX2_put_9 : decode cX2_put 9 = .ok (.aload_n 0, 1) := by decide +kernel
theorem dX2_put_10 : decode cX2_put 10 = .ok (.dup, 1) := by decide +kernel
theorem dX2_put_11 : decode cX2_put 11 = .ok (.getfield 18, 3) := by decide +kernel
theorem dX2_put_14 : decode cX2_put 14 = .ok (.iconst 1, 1) := by decide +kernel
theorem dX2_put_15 : decode cX2_put 15 = .ok (.iadd, 1) := by decide +kernel
theorem dX2_put_16 : decode cX2_put 16 = .ok (.putfield 18, 3) := by decide +kernel
theorem dX2_put_19 : decode cX2_put 19 = .ok (.goto 18, 3) := by decide +kernel
theorem dX2_put_22 : decode cX2_put 22 = .ok (.aload_n 0, 1) := by decide +kernel
theorem dX2_put_23 : decode cX2_put 23 = .ok (.iload_n 2, 1) := by decide +kernel
theorem dX2_put_24 : decode cX2_put 24 = .ok (.putfield 15, 3) := by decide +kernel
theorem dX2_put_27 : decode cX2_put 27 = .ok (.aload_n 0, 1) := by decide +kernel
theorem dX2_put_28 : decode cX2_put 28 = .ok (.dup, 1) := by decide +kernel
theorem dX2_put_29 : decode cX2_put 29 = .ok (.getfield 21, 3) := by decide +kernel
theorem dX2_put_32 : decode cX2_put 32 = .ok (.iconst 1, 1) := by decide +kernel
theorem dX2_put_33 : decode cX2_put 33 = .ok (.iadd, 1) := by decide +kernel
theorem dX2_put_34 : decode cX2_put 34 = .ok (.putfield 21, 3) := by decide +kernel
theorem dX2_put_37 : decode cX2_put 37 = .ok (.return_, 1) := by decide +kernel
theorem dX2_copyFrom_0 : decode cX2_copyFrom 0 = .ok (.aload_n 0, 1) := by decide +kernel
theorem dX2_copyFrom_1 : decode cX2_copyFrom 1 = .ok (.aload_n 1, 1) := by decide +kernel
theorem dX2_copyFrom_2 : decode cX2_copyFrom 2 = .ok (.getfield 9, 3) := by decide +kernel
theorem dX2_copyFrom_5 : decode cX2_copyFrom 5 = .ok (.putfield 9, 3) := by decide +kernel
theorem dX2_copyFrom_8 : decode cX2_copyFrom 8 = .ok (.aload_n 0, 1) := by decide +kernel
theorem dX2_copyFrom_9 : decode cX2_copyFrom 9 = .ok (.aload_n 1, 1) := by decide +kernel
theorem dX2_copyFrom_10 : decode cX2_copyFrom 10 = .ok (.getfield 15, 3) := by decide +kernel
theorem dX2_copyFrom_13 : decode cX2_copyFrom 13 = .ok (.putfield 15, 3) := by decide +kernel
theorem dX2_copyFrom_16 : decode cX2_copyFrom 16 = .ok (.aload_n 0, 1) := by decide +kernel
theorem dX2_copyFrom_17 : decode cX2_copyFrom 17 = .ok (.aload_n 1, 1) := by decide +kernel
theorem dX2_copyFrom_18 : decode cX2_copyFrom 18 = .ok (.getfield 18, 3) := by decide +kernel
theorem dX2_copyFrom_21 : decode cX2_copyFrom 21 = .ok (.putfield 18, 3) := by decide +kernel
theorem dX2_copyFrom_24 : decode cX2_copyFrom 24 = .ok (.aload_n 0, 1) := by decide +kernel
theorem dX2_copyFrom_25 : decode cX2_copyFrom 25 = .ok (.aload_n 1, 1) := by decide +kernel
theorem dX2_copyFrom_26 : decode cX2_copyFrom 26 = .ok (.getfield 21, 3) := by decide +kernel
theorem dX2_copyFrom_29 : decode cX2_copyFrom 29 = .ok (.putfield 21, 3) := by decide +kernel
theorem dX2_copyFrom_32 : decode cX2_copyFrom 32 = .ok (.return_, 1) := by decide +kernel
theorem dX3_init_0 : decode cX3_init 0 = .ok (.aload_n 0, 1) := by decide +kernel
theorem dX3_init_1 : decode cX3_init 1 = .ok (.invokespecial 1, 3) := by decide +kernel
theorem dX3_init_4 : decode cX3_init 4 = .ok (.aload_n 0, 1) := by decide +kernel
theorem dX3_init_5 : decode cX3_init 5 = .ok (.new 7, 3) := by decide +kernel
theorem dX3_init_8 : decode cX3_init 8 = .ok (.dup, 1) := by decide +kernel
theorem dX3_init_9 : decode cX3_init 9 = .ok (.invokespecial 9, 3) := by decide +kernel
theorem dX3_init_12 : decode cX3_init 12 = .ok (.putfield 10, 3) := by decide +kernel
theorem dX3_init_15 : decode cX3_init 15 = .ok (.aload_n 0, 1) := by decide +kernel
theorem dX3_init_16 : decode cX3_init 16 = .ok (.iload_n 1, 1) := by decide +kernel
theorem dX3_init_17 : decode cX3_init 17 = .ok (.putfield 16, 3) := by decide +kernel
theorem dX3_init_20 : decode cX3_init 20 = .ok (.aload_n 0, 1) := by decide +kernel
theorem dX3_init_21 : decode cX3_init 21 = .ok (.iload_n 2, 1) := by decide +kernel
theorem dX3_init_22 : decode cX3_init 22 = .ok (.putfield 20, 3) := by decide +kernel
theorem dX3_init_25 : decode cX3_init 25 = .ok (.return_, 1) := by decide +kernel
theorem dX4_init_0 : decode cX4_init 0 = .ok (.aload_n 0, 1) := by decide +kernel
theorem dX4_init_1 : decode cX4_init 1 = .ok (.invokespecial 3, 3) := by decide +kernel
theorem dX4_init_4 : decode cX4_init 4 = .ok (.aload_n 0, 1) := by decide +kernel
theorem dX4_init_5 : decode cX4_init 5 = .ok (.iconst (-1), 1) := by decide +kernel
theorem dX4_init_6 : decode cX4_init 6 = .ok (.putfield 9, 3) := by decide +kernel
theorem dX4_init_9 : decode cX4_init 9 = .ok (.aload_n 0, 1) := by decide +kernel
theorem dX4_init_10 : decode cX4_init 10 = .ok (.new 15, 3) := by decide +kernel
theorem dX4_init_13 : decode cX4_init 13 = .ok (.dup, 1) := by decide +kernel
theorem dX4_init_14 : decode cX4_init 14 = .ok (.invokespecial 17, 3) := by decide +kernel
theorem dX4_init_17 : decode cX4_init 17 = .ok (.putfield 18, 3) := by decide +kernel
theorem dX4_init_20 : decode cX4_init 20 = .ok (.return_, 1) := by decide +kernel
theorem dX5_init_0 : decode cX5_init 0 = .ok (.aload_n 0, 1) := by decide +kernel
theorem dX5_init_1 : decode cX5_init 1 = .ok (.invokespecial 1, 3) := by decide +kernel
theorem dX5_init_4 : decode cX5_init 4 = .ok (.aload_n 0, 1) := by decide +kernel
theorem dX5_init_5 : decode cX5_init 5 = .ok (.new 7, 3) := by decide +kernel
theorem dX5_init_8 : decode cX5_init 8 = .ok (.dup, 1) := by decide +kernel
theorem dX5_init_9 : decode cX5_init 9 = .ok (.invokespecial 9, 3) := by decide +kernel
theorem dX5_init_12 : decode cX5_init 12 = .ok (.putfield 10, 3) := by decide +kernel
theorem dX5_init_15 : decode cX5_init 15 = .ok (.aload_n 0, 1) := by decide +kernel
theorem dX5_init_16 : decode cX5_init 16 = .ok (.iconst 4, 1) := by decide +kernel
theorem dX5_init_17 : decode cX5_init 17 = .ok (.anewarray 16, 3) := by decide +kernel
theorem dX5_init_20 : decode cX5_init 20 = .ok (.putfield 18, 3) := by decide +kernel
theorem dX5_init_23 : decode cX5_init 23 = .ok (.aload_n 0, 1) := by decide +kernel
theorem dX5_init_24 : decode cX5_init 24 = .ok (.iconst 0, 1) := by decide +kernel
theorem dX5_init_25 : decode cX5_init 25 = .ok (.putfield 22, 3) := by decide +kernel
theorem dX5_init_28 : decode cX5_init 28 = .ok (.iconst 0, 1) := by decide +kernel
theorem dX5_init_29 : decode cX5_init 29 = .ok (.istore_n 1, 1) := by decide +kernel
theorem dX5_init_30 : decode cX5_init 30 = .ok (.iload_n 1, 1) := by decide +kernel
theorem dX5_init_31 : decode cX5_init 31 = .ok (.iconst 4, 1) := by decide +kernel
theorem dX5_init_32 : decode cX5_init 32 = .ok (.if_icmp .ge 22, 3) := by decide +kernel
theorem dX5_init_35 : decode cX5_init 35 = .ok (.aload_n 0, 1) := by decide +kernel
theorem dX5_init_36 : decode cX5_init 36 = .ok (.getfield 18, 3) := by decide +kernel
theorem dX5_init_39 : decode cX5_init 39 = .ok (.iload_n 1, 1) := by decide +kernel
theorem dX5_init_40 : decode cX5_init 40 = .ok (.new 16, 3) := by decide +kernel
theorem dX5_init_43 : decode cX5_init 43 = .ok (.dup, 1) := by decide +kernel
theorem dX5_init_44 : decode cX5_init 44 = .ok (.invokespecial 26, 3) := by decide +kernel
theorem dX5_init_47 : decode cX5_init 47 = .ok (.aastore, 1) := by decide +kernel
theorem dX5_init_48 : decode cX5_init 48 = .ok (.iinc 1 1, 3) := by decide +kernel
theorem dX5_init_51 : decode cX5_init 51 = .ok (.goto (-21), 3) := by decide +kernel
theorem dX5_init_54 : decode cX5_init 54 = .ok (.return_, 1) := by decide +kernel
theorem dX5_add_0 : decode cX5_add 0 = .ok (.iload_n 1, 1) := by decide +kernel
theorem dX5_add_1 : decode cX5_add 1 = .ok (.iconst 0, 1) := by decide +kernel
theorem dX5_add_2 : decode cX5_add 2 = .ok (.iconst 3, 1) := by decide +kernel
theorem dX5_add_3 : decode cX5_add 3 = .ok (.invokestatic 27, 3) := by decide +kernel
theorem dX5_add_6 : decode cX5_add 6 = .ok (.iload_n 2, 1) := by decide +kernel
theorem dX5_add_7 : decode cX5_add 7 = .ok (.iconst 0, 1) := by decide +kernel
theorem dX5_add_8 : decode cX5_add 8 = .ok (.bipush 9, 2) := by decide +kernel
theorem dX5_add_10 : decode cX5_add 10 = .ok (.invokestatic 27, 3) := by decide +kernel
theorem dX5_add_13 : decode cX5_add 13 = .ok (.aload_n 0, 1) := by decide +kernel
theorem dX5_add_14 : decode cX5_add 14 = .ok (.getfield 10, 3) := by decide +kernel
theorem dX5_add_17 : decode cX5_add 17 = .ok (.invokevirtual 31, 3) := by decide +kernel
theorem dX5_add_20 : decode cX5_add 20 = .ok (.bipush 40, 2) := by decide +kernel
theorem dX5_add_22 : decode cX5_add 22 = .ok (.if_icmp .lt 13, 3) := by decide +kernel
theorem dX5_add_25 : decode cX5_add 25 = .ok (.new 35, 3) := by decide +kernel
theorem dX5_add_28 : decode cX5_add 28 = .ok (.dup, 1) := by decide +kernel
theorem dX5_add_29 : decode cX5_add 29 = .ok (.ldc 37, 2) := by decide +kernel
theorem dX5_add_31 : decode cX5_add 31 = .ok (.invokespecial 39, 3) := by decide +kernel
theorem dX5_add_34 : decode cX5_add 34 = .ok (.athrow, 1) := by decide +kernel
theorem dX5_add_35 : decode cX5_add 35 = .ok (.aload_n 0, 1) := by decide +kernel
theorem dX5_add_36 : decode cX5_add 36 = .ok (.getfield 10, 3) := by decide +kernel
theorem dX5_add_39 : decode cX5_add 39 = .ok (.new 42, 3) := by decide +kernel
theorem dX5_add_42 : decode cX5_add 42 = .ok (.dup, 1) := by decide +kernel
theorem dX5_add_43 : decode cX5_add 43 = .ok (.iload_n 1, 1) := by decide +kernel
theorem dX5_add_44 : decode cX5_add 44 = .ok (.iload_n 2, 1) := by decide +kernel
theorem dX5_add_45 : decode cX5_add 45 = .ok (.invokespecial 44, 3) := by decide +kernel
theorem dX5_add_48 : decode cX5_add 48 = .ok (.invokevirtual 47, 3) := by decide +kernel
theorem dX5_add_51 : decode cX5_add 51 = .ok (.pop, 1) := by decide +kernel
theorem dX5_add_52 : decode cX5_add 52 = .ok (.aload_n 0, 1) := by decide +kernel
theorem dX5_add_53 : decode cX5_add 53 = .ok (.getfield 10, 3) := by decide +kernel
theorem dX5_add_56 : decode cX5_add 56 = .ok (.invokevirtual 31, 3) := by decide +kernel
theorem dX5_add_59 : decode cX5_add 59 = .ok (.iconst 1, 1) := by decide +kernel
theorem dX5_add_60 : decode cX5_add 60 = .ok (.isub, 1) := by decide +kernel
theorem dX5_add_61 : decode cX5_add 61 = .ok (.ireturn, 1) := by decide +kernel
theorem dX5_give_0 : decode cX5_give 0 = .ok (.aload_n 0, 1) := by decide +kernel
theorem dX5_give_1 : decode cX5_give 1 = .ok (.iload_n 1, 1) := by decide +kernel
theorem dX5_give_2 : decode cX5_give 2 = .ok (.invokevirtual 51, 3) := by decide +kernel
theorem dX5_give_5 : decode cX5_give 5 = .ok (.astore_n 3, 1) := by decide +kernel
theorem dX5_give_6 : decode cX5_give 6 = .ok (.iload_n 2, 1) := by decide +kernel
theorem dX5_give_7 : decode cX5_give 7 = .ok (.iconst 0, 1) := by decide +kernel
theorem dX5_give_8 : decode cX5_give 8 = .ok (.iconst 3, 1) := by decide +kernel
theorem dX5_give_9 : decode cX5_give 9 = .ok (.invokestatic 27, 3) := by decide +kernel
theorem dX5_give_12 : decode cX5_give 12 = .ok (.aload_n 3, 1) := by decide +kernel
theorem dX5_give_13 : decode cX5_give 13 = .ok (.getfield 55, 3) := by decide +kernel
theorem dX5_give_16 : decode cX5_give 16 = .ok (.istore 4, 2) := by decide +kernel
theorem dX5_give_18 : decode cX5_give 18 = .ok (.aload_n 3, 1) := by decide +kernel
theorem dX5_give_19 : decode cX5_give 19 = .ok (.iload_n 2, 1) := by decide +kernel
theorem dX5_give_20 : decode cX5_give 20 = .ok (.putfield 55, 3) := by decide +kernel
theorem dX5_give_23 : decode cX5_give 23 = .ok (.iload 4, 2) := by decide +kernel
theorem dX5_give_25 : decode cX5_give 25 = .ok (.ireturn, 1) := by decide +kernel
theorem dX5_set_0 : decode cX5_set 0 = .ok (.aload_n 0, 1) := by decide +kernel
theorem dX5_set_1 : decode cX5_set 1 = .ok (.iload_n 1, 1) := by decide +kernel
theorem dX5_set_2 : decode cX5_set 2 = .ok (.invokevirtual 51, 3) := by decide +kernel
theorem dX5_set_5 : decode cX5_set 5 = .ok (.getfield 58, 3) := by decide +kernel
theorem dX5_set_8 : decode cX5_set 8 = .ok (.astore 4, 2) := by decide +kernel
theorem dX5_set_10 : decode cX5_set 10 = .ok (.iload_n 2, 1) := by decide +kernel
theorem dX5_set_11 : decode cX5_set 11 = .ok (.iload_n 3, 1) := by decide +kernel
theorem dX5_set_12 : decode cX5_set 12 = .ok (.invokestatic 62, 3) := by decide +kernel
theorem dX5_set_15 : decode cX5_set 15 = .ok (.aload 4, 2) := by decide +kernel
theorem dX5_set_17 : decode cX5_set 17 = .ok (.iload_n 2, 1) := by decide +kernel
theorem dX5_set_18 : decode cX5_set 18 = .ok (.iload_n 3, 1) := by decide +kernel
theorem dX5_set_19 : decode cX5_set 19 = .ok (.invokevirtual 65, 3) := by decide +kernel
theorem dX5_set_22 : decode cX5_set 22 = .ok (.aload 4, 2) := by decide +kernel
theorem dX5_set_24 : decode cX5_set 24 = .ok (.iload_n 2, 1) := by decide +kernel
theorem dX5_set_25 : decode cX5_set 25 = .ok (.invokevirtual 70, 3) := by decide +kernel
theorem dX5_set_28 : decode cX5_set 28 = .ok (.ireturn, 1) := by decide +kernel
theorem dX5_jobs_0 : decode cX5_jobs 0 = .ok (.aload_n 0, 1) := by decide +kernel
theorem dX5_jobs_1 : decode cX5_jobs 1 = .ok (.getfield 10, 3) := by decide +kernel
theorem dX5_jobs_4 : decode cX5_jobs 4 = .ok (.invokevirtual 31, 3) := by decide +kernel
theorem dX5_jobs_7 : decode cX5_jobs 7 = .ok (.ireturn, 1) := by decide +kernel
theorem dX5_crew_0 : decode cX5_crew 0 = .ok (.aload_n 0, 1) := by decide +kernel
theorem dX5_crew_1 : decode cX5_crew 1 = .ok (.iload_n 1, 1) := by decide +kernel
theorem dX5_crew_2 : decode cX5_crew 2 = .ok (.invokevirtual 51, 3) := by decide +kernel
theorem dX5_crew_5 : decode cX5_crew 5 = .ok (.getfield 55, 3) := by decide +kernel
theorem dX5_crew_8 : decode cX5_crew 8 = .ok (.ireturn, 1) := by decide +kernel
theorem dX5_site_0 : decode cX5_site 0 = .ok (.aload_n 0, 1) := by decide +kernel
theorem dX5_site_1 : decode cX5_site 1 = .ok (.iload_n 1, 1) := by decide +kernel
theorem dX5_site_2 : decode cX5_site 2 = .ok (.invokevirtual 51, 3) := by decide +kernel
theorem dX5_site_5 : decode cX5_site 5 = .ok (.getfield 74, 3) := by decide +kernel
theorem dX5_site_8 : decode cX5_site 8 = .ok (.ireturn, 1) := by decide +kernel
theorem dX5_value_0 : decode cX5_value 0 = .ok (.aload_n 0, 1) := by decide +kernel
theorem dX5_value_1 : decode cX5_value 1 = .ok (.iload_n 1, 1) := by decide +kernel
theorem dX5_value_2 : decode cX5_value 2 = .ok (.invokevirtual 51, 3) := by decide +kernel
theorem dX5_value_5 : decode cX5_value 5 = .ok (.getfield 58, 3) := by decide +kernel
theorem dX5_value_8 : decode cX5_value 8 = .ok (.astore_n 3, 1) := by decide +kernel
theorem dX5_value_9 : decode cX5_value 9 = .ok (.iload_n 2, 1) := by decide +kernel
theorem dX5_value_10 : decode cX5_value 10 = .ok (.invokestatic 77, 3) := by decide +kernel
theorem dX5_value_13 : decode cX5_value 13 = .ok (.aload_n 3, 1) := by decide +kernel
theorem dX5_value_14 : decode cX5_value 14 = .ok (.iload_n 2, 1) := by decide +kernel
theorem dX5_value_15 : decode cX5_value 15 = .ok (.invokevirtual 81, 3) := by decide +kernel
theorem dX5_value_18 : decode cX5_value 18 = .ok (.ireturn, 1) := by decide +kernel
theorem dX5_version_0 : decode cX5_version 0 = .ok (.aload_n 0, 1) := by decide +kernel
theorem dX5_version_1 : decode cX5_version 1 = .ok (.iload_n 1, 1) := by decide +kernel
theorem dX5_version_2 : decode cX5_version 2 = .ok (.invokevirtual 51, 3) := by decide +kernel
theorem dX5_version_5 : decode cX5_version 5 = .ok (.getfield 58, 3) := by decide +kernel
theorem dX5_version_8 : decode cX5_version 8 = .ok (.astore_n 3, 1) := by decide +kernel
theorem dX5_version_9 : decode cX5_version 9 = .ok (.iload_n 2, 1) := by decide +kernel
theorem dX5_version_10 : decode cX5_version 10 = .ok (.invokestatic 77, 3) := by decide +kernel
theorem dX5_version_13 : decode cX5_version 13 = .ok (.aload_n 3, 1) := by decide +kernel
theorem dX5_version_14 : decode cX5_version 14 = .ok (.iload_n 2, 1) := by decide +kernel
theorem dX5_version_15 : decode cX5_version 15 = .ok (.invokevirtual 70, 3) := by decide +kernel
theorem dX5_version_18 : decode cX5_version 18 = .ok (.ireturn, 1) := by decide +kernel
theorem dX5_setRoom_0 : decode cX5_setRoom 0 = .ok (.aload_n 0, 1) := by decide +kernel
theorem dX5_setRoom_1 : decode cX5_setRoom 1 = .ok (.iload_n 1, 1) := by decide +kernel
theorem dX5_setRoom_2 : decode cX5_setRoom 2 = .ok (.invokevirtual 84, 3) := by decide +kernel
theorem dX5_setRoom_5 : decode cX5_setRoom 5 = .ok (.astore_n 3, 1) := by decide +kernel
theorem dX5_setRoom_6 : decode cX5_setRoom 6 = .ok (.iload_n 2, 1) := by decide +kernel
theorem dX5_setRoom_7 : decode cX5_setRoom 7 = .ok (.iconst 0, 1) := by decide +kernel
theorem dX5_setRoom_8 : decode cX5_setRoom 8 = .ok (.bipush 40, 2) := by decide +kernel
theorem dX5_setRoom_10 : decode cX5_setRoom 10 = .ok (.invokestatic 27, 3) := by decide +kernel
theorem dX5_setRoom_13 : decode cX5_setRoom 13 = .ok (.aload_n 3, 1) := by decide +kernel
theorem dX5_setRoom_14 : decode cX5_setRoom 14 = .ok (.getfield 88, 3) := by decide +kernel
theorem dX5_setRoom_17 : decode cX5_setRoom 17 = .ok (.istore 4, 2) := by decide +kernel
theorem dX5_setRoom_19 : decode cX5_setRoom 19 = .ok (.aload_n 3, 1) := by decide +kernel
theorem dX5_setRoom_20 : decode cX5_setRoom 20 = .ok (.iload_n 2, 1) := by decide +kernel
theorem dX5_setRoom_21 : decode cX5_setRoom 21 = .ok (.putfield 88, 3) := by decide +kernel
theorem dX5_setRoom_24 : decode cX5_setRoom 24 = .ok (.iload 4, 2) := by decide +kernel
theorem dX5_setRoom_26 : decode cX5_setRoom 26 = .ok (.ireturn, 1) := by decide +kernel
theorem dX5_fetch_0 : decode cX5_fetch 0 = .ok (.aload_n 0, 1) := by decide +kernel
theorem dX5_fetch_1 : decode cX5_fetch 1 = .ok (.iload_n 1, 1) := by decide +kernel
theorem dX5_fetch_2 : decode cX5_fetch 2 = .ok (.invokevirtual 84, 3) := by decide +kernel
theorem dX5_fetch_5 : decode cX5_fetch 5 = .ok (.astore_n 2, 1) := by decide +kernel
theorem dX5_fetch_6 : decode cX5_fetch 6 = .ok (.aload_n 2, 1) := by decide +kernel
theorem dX5_fetch_7 : decode cX5_fetch 7 = .ok (.invokevirtual 91, 3) := by decide +kernel
theorem dX5_fetch_10 : decode cX5_fetch 10 = .ok (.aload_n 0, 1) := by decide +kernel
theorem dX5_fetch_11 : decode cX5_fetch 11 = .ok (.iload_n 1, 1) := by decide +kernel
theorem dX5_fetch_12 : decode cX5_fetch 12 = .ok (.aload_n 2, 1) := by decide +kernel
theorem dX5_fetch_13 : decode cX5_fetch 13 = .ok (.iconst 1, 1) := by decide +kernel
theorem dX5_fetch_14 : decode cX5_fetch 14 = .ok (.invokevirtual 94, 3) := by decide +kernel
theorem dX5_fetch_17 : decode cX5_fetch 17 = .ok (.aload_n 0, 1) := by decide +kernel
theorem dX5_fetch_18 : decode cX5_fetch 18 = .ok (.iload_n 1, 1) := by decide +kernel
theorem dX5_fetch_19 : decode cX5_fetch 19 = .ok (.aload_n 2, 1) := by decide +kernel
theorem dX5_fetch_20 : decode cX5_fetch 20 = .ok (.iconst 0, 1) := by decide +kernel
theorem dX5_fetch_21 : decode cX5_fetch 21 = .ok (.invokevirtual 94, 3) := by decide +kernel
theorem dX5_fetch_24 : decode cX5_fetch 24 = .ok (.aload_n 0, 1) := by decide +kernel
theorem dX5_fetch_25 : decode cX5_fetch 25 = .ok (.iload_n 1, 1) := by decide +kernel
theorem dX5_fetch_26 : decode cX5_fetch 26 = .ok (.aload_n 2, 1) := by decide +kernel
theorem dX5_fetch_27 : decode cX5_fetch 27 = .ok (.iconst 2, 1) := by decide +kernel
theorem dX5_fetch_28 : decode cX5_fetch 28 = .ok (.invokevirtual 94, 3) := by decide +kernel
theorem dX5_fetch_31 : decode cX5_fetch 31 = .ok (.aload_n 2, 1) := by decide +kernel
theorem dX5_fetch_32 : decode cX5_fetch 32 = .ok (.invokevirtual 98, 3) := by decide +kernel
theorem dX5_fetch_35 : decode cX5_fetch 35 = .ok (.ireturn, 1) := by decide +kernel
theorem dX5_held_0 : decode cX5_held 0 = .ok (.aload_n 0, 1) := by decide +kernel
theorem dX5_held_1 : decode cX5_held 1 = .ok (.iload_n 1, 1) := by decide +kernel
theorem dX5_held_2 : decode cX5_held 2 = .ok (.invokevirtual 84, 3) := by decide +kernel
theorem dX5_held_5 : decode cX5_held 5 = .ok (.invokevirtual 98, 3) := by decide +kernel
theorem dX5_held_8 : decode cX5_held 8 = .ok (.ireturn, 1) := by decide +kernel
theorem dX5_holds_0 : decode cX5_holds 0 = .ok (.aload_n 0, 1) := by decide +kernel
theorem dX5_holds_1 : decode cX5_holds 1 = .ok (.iload_n 1, 1) := by decide +kernel
theorem dX5_holds_2 : decode cX5_holds 2 = .ok (.invokevirtual 84, 3) := by decide +kernel
theorem dX5_holds_5 : decode cX5_holds 5 = .ok (.iload_n 2, 1) := by decide +kernel
theorem dX5_holds_6 : decode cX5_holds 6 = .ok (.invokevirtual 101, 3) := by decide +kernel
theorem dX5_holds_9 : decode cX5_holds 9 = .ok (.ifnull 7, 3) := by decide +kernel
theorem dX5_holds_12 : decode cX5_holds 12 = .ok (.iconst 1, 1) := by decide +kernel
theorem dX5_holds_13 : decode cX5_holds 13 = .ok (.goto 4, 3) := by decide +kernel
theorem dX5_holds_16 : decode cX5_holds 16 = .ok (.iconst 0, 1) := by decide +kernel
theorem dX5_holds_17 : decode cX5_holds 17 = .ok (.ireturn, 1) := by decide +kernel
theorem dX5_heldValue_0 : decode cX5_heldValue 0 = .ok (.aload_n 0, 1) := by decide +kernel
theorem dX5_heldValue_1 : decode cX5_heldValue 1 = .ok (.iload_n 1, 1) := by decide +kernel
theorem dX5_heldValue_2 : decode cX5_heldValue 2 = .ok (.invokevirtual 84, 3) := by decide +kernel
theorem dX5_heldValue_5 : decode cX5_heldValue 5 = .ok (.astore 4, 2) := by decide +kernel
theorem dX5_heldValue_7 : decode cX5_heldValue 7 = .ok (.iload_n 3, 1) := by decide +kernel
theorem dX5_heldValue_8 : decode cX5_heldValue 8 = .ok (.invokestatic 77, 3) := by decide +kernel
theorem dX5_heldValue_11 : decode cX5_heldValue 11 = .ok (.aload 4, 2) := by decide +kernel
theorem dX5_heldValue_13 : decode cX5_heldValue 13 = .ok (.iload_n 2, 1) := by decide +kernel
theorem dX5_heldValue_14 : decode cX5_heldValue 14 = .ok (.invokestatic 105, 3) := by decide +kernel
theorem dX5_heldValue_17 : decode cX5_heldValue 17 = .ok (.iload_n 3, 1) := by decide +kernel
theorem dX5_heldValue_18 : decode cX5_heldValue 18 = .ok (.invokevirtual 81, 3) := by decide +kernel
theorem dX5_heldValue_21 : decode cX5_heldValue 21 = .ok (.ireturn, 1) := by decide +kernel
theorem dX5_change_0 : decode cX5_change 0 = .ok (.aload_n 0, 1) := by decide +kernel
theorem dX5_change_1 : decode cX5_change 1 = .ok (.iload_n 1, 1) := by decide +kernel
theorem dX5_change_2 : decode cX5_change 2 = .ok (.invokevirtual 84, 3) := by decide +kernel
theorem dX5_change_5 : decode cX5_change 5 = .ok (.astore 5, 2) := by decide +kernel
theorem dX5_change_7 : decode cX5_change 7 = .ok (.iload_n 3, 1) := by decide +kernel
theorem dX5_change_8 : decode cX5_change 8 = .ok (.iload 4, 2) := by decide +kernel
theorem dX5_change_10 : decode cX5_change 10 = .ok (.invokestatic 62, 3) := by decide +kernel
theorem dX5_change_13 : decode cX5_change 13 = .ok (.aload 5, 2) := by decide +kernel
theorem dX5_change_15 : decode cX5_change 15 = .ok (.iload_n 2, 1) := by decide +kernel
theorem dX5_change_16 : decode cX5_change 16 = .ok (.invokestatic 105, 3) := by decide +kernel
theorem dX5_change_19 : decode cX5_change 19 = .ok (.astore 6, 2) := by decide +kernel
theorem dX5_change_21 : decode cX5_change 21 = .ok (.aload 5, 2) := by decide +kernel
theorem dX5_change_23 : decode cX5_change 23 = .ok (.invokevirtual 109, 3) := by decide +kernel
theorem dX5_change_26 : decode cX5_change 26 = .ok (.ifCond .eq 14, 3) := by decide +kernel
theorem dX5_change_29 : decode cX5_change 29 = .ok (.aload 5, 2) := by decide +kernel
theorem dX5_change_31 : decode cX5_change 31 = .ok (.iload_n 2, 1) := by decide +kernel
theorem dX5_change_32 : decode cX5_change 32 = .ok (.aload 6, 2) := by decide +kernel
theorem dX5_change_34 : decode cX5_change 34 = .ok (.iload_n 3, 1) := by decide +kernel
theorem dX5_change_35 : decode cX5_change 35 = .ok (.iload 4, 2) := by decide +kernel
theorem dX5_change_37 : decode cX5_change 37 = .ok (.invokevirtual 113, 3) := by decide +kernel
theorem dX5_change_40 : decode cX5_change 40 = .ok (.aload 5, 2) := by decide +kernel
theorem dX5_change_42 : decode cX5_change 42 = .ok (.invokevirtual 117, 3) := by decide +kernel
theorem dX5_change_45 : decode cX5_change 45 = .ok (.ireturn, 1) := by decide +kernel
theorem dX5_make_0 : decode cX5_make 0 = .ok (.aload_n 0, 1) := by decide +kernel
theorem dX5_make_1 : decode cX5_make 1 = .ok (.iload_n 1, 1) := by decide +kernel
theorem dX5_make_2 : decode cX5_make 2 = .ok (.invokevirtual 84, 3) := by decide +kernel
theorem dX5_make_5 : decode cX5_make 5 = .ok (.astore_n 3, 1) := by decide +kernel
theorem dX5_make_6 : decode cX5_make 6 = .ok (.iload_n 2, 1) := by decide +kernel
theorem dX5_make_7 : decode cX5_make 7 = .ok (.iconst 0, 1) := by decide +kernel
theorem dX5_make_8 : decode cX5_make 8 = .ok (.bipush 9, 2) := by decide +kernel
theorem dX5_make_10 : decode cX5_make 10 = .ok (.invokestatic 27, 3) := by decide +kernel
theorem dX5_make_13 : decode cX5_make 13 = .ok (.aload_n 3, 1) := by decide +kernel
theorem dX5_make_14 : decode cX5_make 14 = .ok (.invokevirtual 109, 3) := by decide +kernel
theorem dX5_make_17 : decode cX5_make 17 = .ok (.ifCond .ne 5, 3) := by decide +kernel
theorem dX5_make_20 : decode cX5_make 20 = .ok (.iconst (-1), 1) := by decide +kernel
theorem dX5_make_21 : decode cX5_make 21 = .ok (.ireturn, 1) := by decide +kernel
theorem dX5_make_22 : decode cX5_make 22 = .ok (.aload_n 3, 1) := by decide +kernel
theorem dX5_make_23 : decode cX5_make 23 = .ok (.iload_n 2, 1) := by decide +kernel
theorem dX5_make_24 : decode cX5_make 24 = .ok (.invokevirtual 120, 3) := by decide +kernel
theorem dX5_make_27 : decode cX5_make 27 = .ok (.ireturn, 1) := by decide +kernel
theorem dX5_numberOf_0 : decode cX5_numberOf 0 = .ok (.aload_n 0, 1) := by decide +kernel
theorem dX5_numberOf_1 : decode cX5_numberOf 1 = .ok (.iload_n 1, 1) := by decide +kernel
theorem dX5_numberOf_2 : decode cX5_numberOf 2 = .ok (.invokevirtual 84, 3) := by decide +kernel
theorem dX5_numberOf_5 : decode cX5_numberOf 5 = .ok (.iload_n 2, 1) := by decide +kernel
theorem dX5_numberOf_6 : decode cX5_numberOf 6 = .ok (.invokevirtual 123, 3) := by decide +kernel
theorem dX5_numberOf_9 : decode cX5_numberOf 9 = .ok (.astore_n 3, 1) := by decide +kernel
theorem dX5_numberOf_10 : decode cX5_numberOf 10 = .ok (.aload_n 3, 1) := by decide +kernel
theorem dX5_numberOf_11 : decode cX5_numberOf 11 = .ok (.ifnonnull 13, 3) := by decide +kernel
theorem dX5_numberOf_14 : decode cX5_numberOf 14 = .ok (.new 127, 3) := by decide +kernel
theorem dX5_numberOf_17 : decode cX5_numberOf 17 = .ok (.dup, 1) := by decide +kernel
theorem dX5_numberOf_18 : decode cX5_numberOf 18 = .ok (.ldc 129, 2) := by decide +kernel
theorem dX5_numberOf_20 : decode cX5_numberOf 20 = .ok (.invokespecial 131, 3) := by decide +kernel
theorem dX5_numberOf_23 : decode cX5_numberOf 23 = .ok (.athrow, 1) := by decide +kernel
theorem dX5_numberOf_24 : decode cX5_numberOf 24 = .ok (.aload_n 3, 1) := by decide +kernel
theorem dX5_numberOf_25 : decode cX5_numberOf 25 = .ok (.getfield 132, 3) := by decide +kernel
theorem dX5_numberOf_28 : decode cX5_numberOf 28 = .ok (.ireturn, 1) := by decide +kernel
theorem dX5_send_0 : decode cX5_send 0 = .ok (.aload_n 0, 1) := by decide +kernel
theorem dX5_send_1 : decode cX5_send 1 = .ok (.iload_n 1, 1) := by decide +kernel
theorem dX5_send_2 : decode cX5_send 2 = .ok (.invokevirtual 84, 3) := by decide +kernel
theorem dX5_send_5 : decode cX5_send 5 = .ok (.astore_n 3, 1) := by decide +kernel
theorem dX5_send_6 : decode cX5_send 6 = .ok (.iload_n 2, 1) := by decide +kernel
theorem dX5_send_7 : decode cX5_send 7 = .ok (.iconst 1, 1) := by decide +kernel
theorem dX5_send_8 : decode cX5_send 8 = .ok (.bipush 100, 2) := by decide +kernel
theorem dX5_send_10 : decode cX5_send 10 = .ok (.invokestatic 27, 3) := by decide +kernel
theorem dX5_send_13 : decode cX5_send 13 = .ok (.iconst 0, 1) := by decide +kernel
theorem dX5_send_14 : decode cX5_send 14 = .ok (.istore 4, 2) := by decide +kernel
theorem dX5_send_16 : decode cX5_send 16 = .ok (.iconst 0, 1) := by decide +kernel
theorem dX5_send_17 : decode cX5_send 17 = .ok (.istore 5, 2) := by decide +kernel
theorem dX5_send_19 : decode cX5_send 19 = .ok (.iload 5, 2) := by decide +kernel
theorem dX5_send_21 : decode cX5_send 21 = .ok (.iload_n 2, 1) := by decide +kernel
theorem dX5_send_22 : decode cX5_send 22 = .ok (.if_icmp .ge 53, 3) := by decide +kernel
theorem dX5_send_25 : decode cX5_send 25 = .ok (.aload_n 3, 1) := by decide +kernel
theorem dX5_send_26 : decode cX5_send 26 = .ok (.invokevirtual 137, 3) := by decide +kernel
theorem dX5_send_29 : decode cX5_send 29 = .ok (.astore 6, 2) := by decide +kernel
theorem dX5_send_31 : decode cX5_send 31 = .ok (.aload 6, 2) := by decide +kernel
theorem dX5_send_33 : decode cX5_send 33 = .ok (.ifnonnull 6, 3) := by decide +kernel
theorem dX5_send_36 : decode cX5_send 36 = .ok (.goto 39, 3) := by decide +kernel
theorem dX5_send_39 : decode cX5_send 39 = .ok (.aload_n 0, 1) := by decide +kernel
theorem dX5_send_40 : decode cX5_send 40 = .ok (.iload_n 1, 1) := by decide +kernel
theorem dX5_send_41 : decode cX5_send 41 = .ok (.aload_n 3, 1) := by decide +kernel
theorem dX5_send_42 : decode cX5_send 42 = .ok (.aload 6, 2) := by decide +kernel
theorem dX5_send_44 : decode cX5_send 44 = .ok (.invokevirtual 141, 3) := by decide +kernel
theorem dX5_send_47 : decode cX5_send 47 = .ok (.istore 7, 2) := by decide +kernel
theorem dX5_send_49 : decode cX5_send 49 = .ok (.iload 7, 2) := by decide +kernel
theorem dX5_send_51 : decode cX5_send 51 = .ok (.iconst (-1), 1) := by decide +kernel
theorem dX5_send_52 : decode cX5_send 52 = .ok (.if_icmp .ne 9, 3) := by decide +kernel
theorem dX5_send_55 : decode cX5_send 55 = .ok (.iinc 4 1, 3) := by decide +kernel
theorem dX5_send_58 : decode cX5_send 58 = .ok (.goto 11, 3) := by decide +kernel
theorem dX5_send_61 : decode cX5_send 61 = .ok (.aload_n 3, 1) := by decide +kernel
theorem dX5_send_62 : decode cX5_send 62 = .ok (.aload 6, 2) := by decide +kernel
theorem dX5_send_64 : decode cX5_send 64 = .ok (.iload 7, 2) := by decide +kernel
theorem dX5_send_66 : decode cX5_send 66 = .ok (.invokevirtual 145, 3) := by decide +kernel
theorem dX5_send_69 : decode cX5_send 69 = .ok (.iinc 5 1, 3) := by decide +kernel
theorem dX5_send_72 : decode cX5_send 72 = .ok (.goto (-53), 3) := by decide +kernel
theorem dX5_send_75 : decode cX5_send 75 = .ok (.aload_n 0, 1) := by decide +kernel
theorem dX5_send_76 : decode cX5_send 76 = .ok (.dup, 1) := by decide +kernel
theorem dX5_send_77 : decode cX5_send 77 = .ok (.getfield 22, 3) := by decide +kernel
theorem dX5_send_80 : decode cX5_send 80 = .ok (.iload 4, 2) := by decide +kernel
theorem dX5_send_82 : decode cX5_send 82 = .ok (.iadd, 1) := by decide +kernel
theorem dX5_send_83 : decode cX5_send 83 = .ok (.putfield 22, 3) := by decide +kernel
theorem dX5_send_86 : decode cX5_send 86 = .ok (.iload 4, 2) := by decide +kernel
theorem dX5_send_88 : decode cX5_send 88 = .ok (.ireturn, 1) := by decide +kernel
theorem dX5_waiting_0 : decode cX5_waiting 0 = .ok (.aload_n 0, 1) := by decide +kernel
theorem dX5_waiting_1 : decode cX5_waiting 1 = .ok (.iload_n 1, 1) := by decide +kernel
theorem dX5_waiting_2 : decode cX5_waiting 2 = .ok (.invokevirtual 84, 3) := by decide +kernel
theorem dX5_waiting_5 : decode cX5_waiting 5 = .ok (.invokevirtual 117, 3) := by decide +kernel
theorem dX5_waiting_8 : decode cX5_waiting 8 = .ok (.ireturn, 1) := by decide +kernel
theorem dX5_pile_0 : decode cX5_pile 0 = .ok (.aload_n 0, 1) := by decide +kernel
theorem dX5_pile_1 : decode cX5_pile 1 = .ok (.iload_n 1, 1) := by decide +kernel
theorem dX5_pile_2 : decode cX5_pile 2 = .ok (.invokevirtual 84, 3) := by decide +kernel
theorem dX5_pile_5 : decode cX5_pile 5 = .ok (.getfield 149, 3) := by decide +kernel
theorem dX5_pile_8 : decode cX5_pile 8 = .ok (.invokevirtual 31, 3) := by decide +kernel
theorem dX5_pile_11 : decode cX5_pile 11 = .ok (.ireturn, 1) := by decide +kernel
theorem dX5_reason_0 : decode cX5_reason 0 = .ok (.aload_n 0, 1) := by decide +kernel
theorem dX5_reason_1 : decode cX5_reason 1 = .ok (.iload_n 1, 1) := by decide +kernel
theorem dX5_reason_2 : decode cX5_reason 2 = .ok (.iload_n 2, 1) := by decide +kernel
theorem dX5_reason_3 : decode cX5_reason 3 = .ok (.invokevirtual 152, 3) := by decide +kernel
theorem dX5_reason_6 : decode cX5_reason 6 = .ok (.getfield 156, 3) := by decide +kernel
theorem dX5_reason_9 : decode cX5_reason 9 = .ok (.ireturn, 1) := by decide +kernel
theorem dX5_refusedValue_0 : decode cX5_refusedValue 0 = .ok (.aload_n 0, 1) := by decide +kernel
theorem dX5_refusedValue_1 : decode cX5_refusedValue 1 = .ok (.iload_n 1, 1) := by decide +kernel
theorem dX5_refusedValue_2 : decode cX5_refusedValue 2 = .ok (.iload_n 2, 1) := by decide +kernel
theorem dX5_refusedValue_3 : decode cX5_refusedValue 3 = .ok (.invokevirtual 152, 3) := by decide +kernel
theorem dX5_refusedValue_6 : decode cX5_refusedValue 6 = .ok (.getfield 161, 3) := by decide +kernel
theorem dX5_refusedValue_9 : decode cX5_refusedValue 9 = .ok (.ireturn, 1) := by decide +kernel
theorem dX5_done_0 : decode cX5_done 0 = .ok (.aload_n 0, 1) := by decide +kernel
theorem dX5_done_1 : decode cX5_done 1 = .ok (.getfield 22, 3) := by decide +kernel
theorem dX5_done_4 : decode cX5_done 4 = .ok (.ireturn, 1) := by decide +kernel
theorem dX5_copyJobs_0 : decode cX5_copyJobs 0 = .ok (.iconst 0, 1) := by decide +kernel
theorem dX5_copyJobs_1 : decode cX5_copyJobs 1 = .ok (.istore 4, 2) := by decide +kernel
theorem dX5_copyJobs_3 : decode cX5_copyJobs 3 = .ok (.iload 4, 2) := by decide +kernel
theorem dX5_copyJobs_5 : decode cX5_copyJobs 5 = .ok (.aload_n 0, 1) := by decide +kernel
theorem dX5_copyJobs_6 : decode cX5_copyJobs 6 = .ok (.getfield 10, 3) := by decide +kernel
theorem dX5_copyJobs_9 : decode cX5_copyJobs 9 = .ok (.invokevirtual 31, 3) := by decide +kernel
theorem dX5_copyJobs_12 : decode cX5_copyJobs 12 = .ok (.if_icmp .ge 66, 3) := by decide +kernel
theorem dX5_copyJobs_15 : decode cX5_copyJobs 15 = .ok (.aload_n 0, 1) := by decide +kernel
theorem dX5_copyJobs_16 : decode cX5_copyJobs 16 = .ok (.getfield 10, 3) := by decide +kernel
theorem dX5_copyJobs_19 : decode cX5_copyJobs 19 = .ok (.iload 4, 2) := by decide +kernel
theorem dX5_copyJobs_21 : decode cX5_copyJobs 21 = .ok (.invokevirtual 164, 3) := by decide +kernel
theorem dX5_copyJobs_24 : decode cX5_copyJobs 24 = .ok (.checkcast 42, 3) := by decide +kernel
theorem dX5_copyJobs_27 : decode cX5_copyJobs 27 = .ok (.astore 5, 2) := by decide +kernel
theorem dX5_copyJobs_29 : decode cX5_copyJobs 29 = .ok (.aload_n 2, 1) := by decide +kernel
theorem dX5_copyJobs_30 : decode cX5_copyJobs 30 = .ok (.getfield 168, 3) := by decide +kernel
theorem dX5_copyJobs_33 : decode cX5_copyJobs 33 = .ok (.aload_n 2, 1) := by decide +kernel
theorem dX5_copyJobs_34 : decode cX5_copyJobs 34 = .ok (.getfield 88, 3) := by decide +kernel
theorem dX5_copyJobs_37 : decode cX5_copyJobs 37 = .ok (.if_icmp .ge 35, 3) := by decide +kernel
theorem dX5_copyJobs_40 : decode cX5_copyJobs 40 = .ok (.aload 5, 2) := by decide +kernel
theorem dX5_copyJobs_42 : decode cX5_copyJobs 42 = .ok (.getfield 55, 3) := by decide +kernel
theorem dX5_copyJobs_45 : decode cX5_copyJobs 45 = .ok (.iload_n 1, 1) := by decide +kernel
theorem dX5_copyJobs_46 : decode cX5_copyJobs 46 = .ok (.if_icmp .ne 26, 3) := by decide +kernel
theorem dX5_copyJobs_49 : decode cX5_copyJobs 49 = .ok (.aload 5, 2) := by decide +kernel
theorem dX5_copyJobs_51 : decode cX5_copyJobs 51 = .ok (.getfield 58, 3) := by decide +kernel
theorem dX5_copyJobs_54 : decode cX5_copyJobs 54 = .ok (.getfield 171, 3) := by decide +kernel
theorem dX5_copyJobs_57 : decode cX5_copyJobs 57 = .ok (.iload_n 3, 1) := by decide +kernel
theorem dX5_copyJobs_58 : decode cX5_copyJobs 58 = .ok (.if_icmp .ne 14, 3) := by decide +kernel
theorem dX5_copyJobs_61 : decode cX5_copyJobs 61 = .ok (.aload_n 2, 1) := by decide +kernel
theorem dX5_copyJobs_62 : decode cX5_copyJobs 62 = .ok (.iload 4, 2) := by decide +kernel
theorem dX5_copyJobs_64 : decode cX5_copyJobs 64 = .ok (.aload 5, 2) := by decide +kernel
theorem dX5_copyJobs_66 : decode cX5_copyJobs 66 = .ok (.getfield 58, 3) := by decide +kernel
theorem dX5_copyJobs_69 : decode cX5_copyJobs 69 = .ok (.invokevirtual 174, 3) := by decide +kernel
theorem dX5_copyJobs_72 : decode cX5_copyJobs 72 = .ok (.iinc 4 1, 3) := by decide +kernel
theorem dX5_copyJobs_75 : decode cX5_copyJobs 75 = .ok (.goto (-72), 3) := by decide +kernel
theorem dX5_copyJobs_78 : decode cX5_copyJobs 78 = .ok (.return_, 1) := by decide +kernel
theorem dX5_deliver_0 : decode cX5_deliver 0 = .ok (.aload_n 3, 1) := by decide +kernel
theorem dX5_deliver_1 : decode cX5_deliver 1 = .ok (.getfield 178, 3) := by decide +kernel
theorem dX5_deliver_4 : decode cX5_deliver 4 = .ok (.iconst (-1), 1) := by decide +kernel
theorem dX5_deliver_5 : decode cX5_deliver 5 = .ok (.if_icmp .ne 13, 3) := by decide +kernel
theorem dX5_deliver_8 : decode cX5_deliver 8 = .ok (.aload_n 0, 1) := by decide +kernel
theorem dX5_deliver_9 : decode cX5_deliver 9 = .ok (.iload_n 1, 1) := by decide +kernel
theorem dX5_deliver_10 : decode cX5_deliver 10 = .ok (.aload_n 2, 1) := by decide +kernel
theorem dX5_deliver_11 : decode cX5_deliver 11 = .ok (.aload_n 3, 1) := by decide +kernel
theorem dX5_deliver_12 : decode cX5_deliver 12 = .ok (.invokevirtual 181, 3) := by decide +kernel
theorem dX5_deliver_15 : decode cX5_deliver 15 = .ok (.goto 10, 3) := by decide +kernel
theorem dX5_deliver_18 : decode cX5_deliver 18 = .ok (.aload_n 0, 1) := by decide +kernel
theorem dX5_deliver_19 : decode cX5_deliver 19 = .ok (.iload_n 1, 1) := by decide +kernel
theorem dX5_deliver_20 : decode cX5_deliver 20 = .ok (.aload_n 2, 1) := by decide +kernel
theorem dX5_deliver_21 : decode cX5_deliver 21 = .ok (.aload_n 3, 1) := by decide +kernel
theorem dX5_deliver_22 : decode cX5_deliver 22 = .ok (.invokevirtual 184, 3) := by decide +kernel
theorem dX5_deliver_25 : decode cX5_deliver 25 = .ok (.ireturn, 1) := by decide +kernel
theorem dX5_deliverMaking_0 : decode cX5_deliverMaking 0 = .ok (.aload_n 2, 1) := by decide +kernel
theorem dX5_deliverMaking_1 : decode cX5_deliverMaking 1 = .ok (.aload_n 3, 1) := by decide +kernel
theorem dX5_deliverMaking_2 : decode cX5_deliverMaking 2 = .ok (.getfield 187, 3) := by decide +kernel
theorem dX5_deliverMaking_5 : decode cX5_deliverMaking 5 = .ok (.invokevirtual 123, 3) := by decide +kernel
theorem dX5_deliverMaking_8 : decode cX5_deliverMaking 8 = .ok (.astore 4, 2) := by decide +kernel
theorem dX5_deliverMaking_10 : decode cX5_deliverMaking 10 = .ok (.aload 4, 2) := by decide +kernel
theorem dX5_deliverMaking_12 : decode cX5_deliverMaking 12 = .ok (.ifnull 15, 3) := by decide +kernel
theorem dX5_deliverMaking_15 : decode cX5_deliverMaking 15 = .ok (.aload_n 0, 1) := by decide +kernel
theorem dX5_deliverMaking_16 : decode cX5_deliverMaking 16 = .ok (.getfield 10, 3) := by decide +kernel
theorem dX5_deliverMaking_19 : decode cX5_deliverMaking 19 = .ok (.invokevirtual 31, 3) := by decide +kernel
theorem dX5_deliverMaking_22 : decode cX5_deliverMaking 22 = .ok (.bipush 40, 2) := by decide +kernel
theorem dX5_deliverMaking_24 : decode cX5_deliverMaking 24 = .ok (.if_icmp .lt 5, 3) := by decide +kernel
theorem dX5_deliverMaking_27 : decode cX5_deliverMaking 27 = .ok (.iconst 3, 1) := by decide +kernel
theorem dX5_deliverMaking_28 : decode cX5_deliverMaking 28 = .ok (.ireturn, 1) := by decide +kernel
theorem dX5_deliverMaking_29 : decode cX5_deliverMaking 29 = .ok (.aload_n 2, 1) := by decide +kernel
theorem dX5_deliverMaking_30 : decode cX5_deliverMaking 30 = .ok (.aload 4, 2) := by decide +kernel
theorem dX5_deliverMaking_32 : decode cX5_deliverMaking 32 = .ok (.aload_n 0, 1) := by decide +kernel
theorem dX5_deliverMaking_33 : decode cX5_deliverMaking 33 = .ok (.getfield 10, 3) := by decide +kernel
theorem dX5_deliverMaking_36 : decode cX5_deliverMaking 36 = .ok (.invokevirtual 31, 3) := by decide +kernel
theorem dX5_deliverMaking_39 : decode cX5_deliverMaking 39 = .ok (.invokevirtual 190, 3) := by decide +kernel
theorem dX5_deliverMaking_42 : decode cX5_deliverMaking 42 = .ok (.aload_n 0, 1) := by decide +kernel
theorem dX5_deliverMaking_43 : decode cX5_deliverMaking 43 = .ok (.getfield 10, 3) := by decide +kernel
theorem dX5_deliverMaking_46 : decode cX5_deliverMaking 46 = .ok (.new 42, 3) := by decide +kernel
theorem dX5_deliverMaking_49 : decode cX5_deliverMaking 49 = .ok (.dup, 1) := by decide +kernel
theorem dX5_deliverMaking_50 : decode cX5_deliverMaking 50 = .ok (.iload_n 1, 1) := by decide +kernel
theorem dX5_deliverMaking_51 : decode cX5_deliverMaking 51 = .ok (.aload_n 3, 1) := by decide +kernel
theorem dX5_deliverMaking_52 : decode cX5_deliverMaking 52 = .ok (.getfield 161, 3) := by decide +kernel
theorem dX5_deliverMaking_55 : decode cX5_deliverMaking 55 = .ok (.invokespecial 44, 3) := by decide +kernel
theorem dX5_deliverMaking_58 : decode cX5_deliverMaking 58 = .ok (.invokevirtual 47, 3) := by decide +kernel
theorem dX5_deliverMaking_61 : decode cX5_deliverMaking 61 = .ok (.pop, 1) := by decide +kernel
theorem dX5_deliverMaking_62 : decode cX5_deliverMaking 62 = .ok (.iconst (-1), 1) := by decide +kernel
theorem dX5_deliverMaking_63 : decode cX5_deliverMaking 63 = .ok (.ireturn, 1) := by decide +kernel
theorem dX5_deliverChange_0 : decode cX5_deliverChange 0 = .ok (.aload_n 2, 1) := by decide +kernel
theorem dX5_deliverChange_1 : decode cX5_deliverChange 1 = .ok (.aload_n 3, 1) := by decide +kernel
theorem dX5_deliverChange_2 : decode cX5_deliverChange 2 = .ok (.getfield 187, 3) := by decide +kernel
theorem dX5_deliverChange_5 : decode cX5_deliverChange 5 = .ok (.invokevirtual 194, 3) := by decide +kernel
theorem dX5_deliverChange_8 : decode cX5_deliverChange 8 = .ok (.istore 4, 2) := by decide +kernel
theorem dX5_deliverChange_10 : decode cX5_deliverChange 10 = .ok (.iload 4, 2) := by decide +kernel
theorem dX5_deliverChange_12 : decode cX5_deliverChange 12 = .ok (.ifCond .lt 15, 3) := by decide +kernel
theorem dX5_deliverChange_15 : decode cX5_deliverChange 15 = .ok (.iload 4, 2) := by decide +kernel
theorem dX5_deliverChange_17 : decode cX5_deliverChange 17 = .ok (.aload_n 0, 1) := by decide +kernel
theorem dX5_deliverChange_18 : decode cX5_deliverChange 18 = .ok (.getfield 10, 3) := by decide +kernel
theorem dX5_deliverChange_21 : decode cX5_deliverChange 21 = .ok (.invokevirtual 31, 3) := by decide +kernel
theorem dX5_deliverChange_24 : decode cX5_deliverChange 24 = .ok (.if_icmp .lt 5, 3) := by decide +kernel
theorem dX5_deliverChange_27 : decode cX5_deliverChange 27 = .ok (.iconst 3, 1) := by decide +kernel
theorem dX5_deliverChange_28 : decode cX5_deliverChange 28 = .ok (.ireturn, 1) := by decide +kernel
theorem dX5_deliverChange_29 : decode cX5_deliverChange 29 = .ok (.aload_n 0, 1) := by decide +kernel
theorem dX5_deliverChange_30 : decode cX5_deliverChange 30 = .ok (.getfield 10, 3) := by decide +kernel
theorem dX5_deliverChange_33 : decode cX5_deliverChange 33 = .ok (.iload 4, 2) := by decide +kernel
theorem dX5_deliverChange_35 : decode cX5_deliverChange 35 = .ok (.invokevirtual 164, 3) := by decide +kernel
theorem dX5_deliverChange_38 : decode cX5_deliverChange 38 = .ok (.checkcast 42, 3) := by decide +kernel
theorem dX5_deliverChange_41 : decode cX5_deliverChange 41 = .ok (.astore 5, 2) := by decide +kernel
theorem dX5_deliverChange_43 : decode cX5_deliverChange 43 = .ok (.aload 5, 2) := by decide +kernel
theorem dX5_deliverChange_45 : decode cX5_deliverChange 45 = .ok (.getfield 55, 3) := by decide +kernel
theorem dX5_deliverChange_48 : decode cX5_deliverChange 48 = .ok (.iload_n 1, 1) := by decide +kernel
theorem dX5_deliverChange_49 : decode cX5_deliverChange 49 = .ok (.if_icmp .eq 5, 3) := by decide +kernel
theorem dX5_deliverChange_52 : decode cX5_deliverChange 52 = .ok (.iconst 0, 1) := by decide +kernel
theorem dX5_deliverChange_53 : decode cX5_deliverChange 53 = .ok (.ireturn, 1) := by decide +kernel
theorem dX5_deliverChange_54 : decode cX5_deliverChange 54 = .ok (.aload 5, 2) := by decide +kernel
theorem dX5_deliverChange_56 : decode cX5_deliverChange 56 = .ok (.getfield 58, 3) := by decide +kernel
theorem dX5_deliverChange_59 : decode cX5_deliverChange 59 = .ok (.aload_n 3, 1) := by decide +kernel
theorem dX5_deliverChange_60 : decode cX5_deliverChange 60 = .ok (.getfield 178, 3) := by decide +kernel
theorem dX5_deliverChange_63 : decode cX5_deliverChange 63 = .ok (.invokevirtual 70, 3) := by decide +kernel
theorem dX5_deliverChange_66 : decode cX5_deliverChange 66 = .ok (.aload_n 3, 1) := by decide +kernel
theorem dX5_deliverChange_67 : decode cX5_deliverChange 67 = .ok (.getfield 197, 3) := by decide +kernel
theorem dX5_deliverChange_70 : decode cX5_deliverChange 70 = .ok (.if_icmp .eq 5, 3) := by decide +kernel
theorem dX5_deliverChange_73 : decode cX5_deliverChange 73 = .ok (.iconst 1, 1) := by decide +kernel
theorem dX5_deliverChange_74 : decode cX5_deliverChange 74 = .ok (.ireturn, 1) := by decide +kernel
theorem dX5_deliverChange_75 : decode cX5_deliverChange 75 = .ok (.aload_n 3, 1) := by decide +kernel
theorem dX5_deliverChange_76 : decode cX5_deliverChange 76 = .ok (.getfield 178, 3) := by decide +kernel
theorem dX5_deliverChange_79 : decode cX5_deliverChange 79 = .ok (.ifCond .ne 23, 3) := by decide +kernel
theorem dX5_deliverChange_82 : decode cX5_deliverChange 82 = .ok (.aload 5, 2) := by decide +kernel
theorem dX5_deliverChange_84 : decode cX5_deliverChange 84 = .ok (.getfield 58, 3) := by decide +kernel
theorem dX5_deliverChange_87 : decode cX5_deliverChange 87 = .ok (.getfield 171, 3) := by decide +kernel
theorem dX5_deliverChange_90 : decode cX5_deliverChange 90 = .ok (.aload_n 3, 1) := by decide +kernel
theorem dX5_deliverChange_91 : decode cX5_deliverChange 91 = .ok (.getfield 161, 3) := by decide +kernel
theorem dX5_deliverChange_94 : decode cX5_deliverChange 94 = .ok (.invokestatic 200, 3) := by decide +kernel
theorem dX5_deliverChange_97 : decode cX5_deliverChange 97 = .ok (.ifCond .ne 5, 3) := by decide +kernel
theorem dX5_deliverChange_100 : decode cX5_deliverChange 100 = .ok (.iconst 2, 1) := by decide +kernel
theorem dX5_deliverChange_101 : decode cX5_deliverChange 101 = .ok (.ireturn, 1) := by decide +kernel
theorem dX5_deliverChange_102 : decode cX5_deliverChange 102 = .ok (.aload 5, 2) := by decide +kernel
theorem dX5_deliverChange_104 : decode cX5_deliverChange 104 = .ok (.getfield 58, 3) := by decide +kernel
theorem dX5_deliverChange_107 : decode cX5_deliverChange 107 = .ok (.aload_n 3, 1) := by decide +kernel
theorem dX5_deliverChange_108 : decode cX5_deliverChange 108 = .ok (.getfield 178, 3) := by decide +kernel
theorem dX5_deliverChange_111 : decode cX5_deliverChange 111 = .ok (.aload_n 3, 1) := by decide +kernel
theorem dX5_deliverChange_112 : decode cX5_deliverChange 112 = .ok (.getfield 161, 3) := by decide +kernel
theorem dX5_deliverChange_115 : decode cX5_deliverChange 115 = .ok (.invokevirtual 65, 3) := by decide +kernel
theorem dX5_deliverChange_118 : decode cX5_deliverChange 118 = .ok (.iconst (-1), 1) := by decide +kernel
theorem dX5_deliverChange_119 : decode cX5_deliverChange 119 = .ok (.ireturn, 1) := by decide +kernel
theorem dX5_isStep_0 : decode cX5_isStep 0 = .ok (.iload_n 0, 1) := by decide +kernel
theorem dX5_isStep_1 : decode cX5_isStep 1 = .ok (.ifCond .ne 8, 3) := by decide +kernel
theorem dX5_isStep_4 : decode cX5_isStep 4 = .ok (.iload_n 1, 1) := by decide +kernel
theorem dX5_isStep_5 : decode cX5_isStep 5 = .ok (.iconst 1, 1) := by decide +kernel
theorem dX5_isStep_6 : decode cX5_isStep 6 = .ok (.if_icmp .eq 13, 3) := by decide +kernel
theorem dX5_isStep_9 : decode cX5_isStep 9 = .ok (.iload_n 0, 1) := by decide +kernel
theorem dX5_isStep_10 : decode cX5_isStep 10 = .ok (.iconst 1, 1) := by decide +kernel
theorem dX5_isStep_11 : decode cX5_isStep 11 = .ok (.if_icmp .ne 12, 3) := by decide +kernel
theorem dX5_isStep_14 : decode cX5_isStep 14 = .ok (.iload_n 1, 1) := by decide +kernel
theorem dX5_isStep_15 : decode cX5_isStep 15 = .ok (.iconst 2, 1) := by decide +kernel
theorem dX5_isStep_16 : decode cX5_isStep 16 = .ok (.if_icmp .ne 7, 3) := by decide +kernel
theorem dX5_isStep_19 : decode cX5_isStep 19 = .ok (.iconst 1, 1) := by decide +kernel
theorem dX5_isStep_20 : decode cX5_isStep 20 = .ok (.goto 4, 3) := by decide +kernel
theorem dX5_isStep_23 : decode cX5_isStep 23 = .ok (.iconst 0, 1) := by decide +kernel
theorem dX5_isStep_24 : decode cX5_isStep 24 = .ok (.ireturn, 1) := by decide +kernel
theorem dX5_jobAt_0 : decode cX5_jobAt 0 = .ok (.iload_n 1, 1) := by decide +kernel
theorem dX5_jobAt_1 : decode cX5_jobAt 1 = .ok (.ifCond .lt 14, 3) := by decide +kernel
theorem dX5_jobAt_4 : decode cX5_jobAt 4 = .ok (.iload_n 1, 1) := by decide +kernel
theorem dX5_jobAt_5 : decode cX5_jobAt 5 = .ok (.aload_n 0, 1) := by decide +kernel
theorem dX5_jobAt_6 : decode cX5_jobAt 6 = .ok (.getfield 10, 3) := by decide +kernel
theorem dX5_jobAt_9 : decode cX5_jobAt 9 = .ok (.invokevirtual 31, 3) := by decide +kernel
theorem dX5_jobAt_12 : decode cX5_jobAt 12 = .ok (.if_icmp .lt 13, 3) := by decide +kernel
theorem dX5_jobAt_15 : decode cX5_jobAt 15 = .ok (.new 204, 3) := by decide +kernel
theorem dX5_jobAt_18 : decode cX5_jobAt 18 = .ok (.dup, 1) := by decide +kernel
theorem dX5_jobAt_19 : decode cX5_jobAt 19 = .ok (.ldc 206, 2) := by decide +kernel
theorem dX5_jobAt_21 : decode cX5_jobAt 21 = .ok (.invokespecial 208, 3) := by decide +kernel
theorem dX5_jobAt_24 : decode cX5_jobAt 24 = .ok (.athrow, 1) := by decide +kernel
theorem dX5_jobAt_25 : decode cX5_jobAt 25 = .ok (.aload_n 0, 1) := by decide +kernel
theorem dX5_jobAt_26 : decode cX5_jobAt 26 = .ok (.getfield 10, 3) := by decide +kernel
theorem dX5_jobAt_29 : decode cX5_jobAt 29 = .ok (.iload_n 1, 1) := by decide +kernel
theorem dX5_jobAt_30 : decode cX5_jobAt 30 = .ok (.invokevirtual 164, 3) := by decide +kernel
theorem dX5_jobAt_33 : decode cX5_jobAt 33 = .ok (.checkcast 42, 3) := by decide +kernel
theorem dX5_jobAt_36 : decode cX5_jobAt 36 = .ok (.areturn, 1) := by decide +kernel
theorem dX5_deviceAt_0 : decode cX5_deviceAt 0 = .ok (.iload_n 1, 1) := by decide +kernel
theorem dX5_deviceAt_1 : decode cX5_deviceAt 1 = .ok (.ifCond .lt 8, 3) := by decide +kernel
theorem dX5_deviceAt_4 : decode cX5_deviceAt 4 = .ok (.iload_n 1, 1) := by decide +kernel
theorem dX5_deviceAt_5 : decode cX5_deviceAt 5 = .ok (.iconst 4, 1) := by decide +kernel
theorem dX5_deviceAt_6 : decode cX5_deviceAt 6 = .ok (.if_icmp .lt 13, 3) := by decide +kernel
theorem dX5_deviceAt_9 : decode cX5_deviceAt 9 = .ok (.new 204, 3) := by decide +kernel
theorem dX5_deviceAt_12 : decode cX5_deviceAt 12 = .ok (.dup, 1) := by decide +kernel
theorem dX5_deviceAt_13 : decode cX5_deviceAt 13 = .ok (.ldc 209, 2) := by decide +kernel
theorem dX5_deviceAt_15 : decode cX5_deviceAt 15 = .ok (.invokespecial 208, 3) := by decide +kernel
theorem dX5_deviceAt_18 : decode cX5_deviceAt 18 = .ok (.athrow, 1) := by decide +kernel
theorem dX5_deviceAt_19 : decode cX5_deviceAt 19 = .ok (.aload_n 0, 1) := by decide +kernel
theorem dX5_deviceAt_20 : decode cX5_deviceAt 20 = .ok (.getfield 18, 3) := by decide +kernel
theorem dX5_deviceAt_23 : decode cX5_deviceAt 23 = .ok (.iload_n 1, 1) := by decide +kernel
theorem dX5_deviceAt_24 : decode cX5_deviceAt 24 = .ok (.aaload, 1) := by decide +kernel
theorem dX5_deviceAt_25 : decode cX5_deviceAt 25 = .ok (.areturn, 1) := by decide +kernel
theorem dX5_refusedAt_0 : decode cX5_refusedAt 0 = .ok (.aload_n 0, 1) := by decide +kernel
theorem dX5_refusedAt_1 : decode cX5_refusedAt 1 = .ok (.iload_n 1, 1) := by decide +kernel
theorem dX5_refusedAt_2 : decode cX5_refusedAt 2 = .ok (.invokevirtual 84, 3) := by decide +kernel
theorem dX5_refusedAt_5 : decode cX5_refusedAt 5 = .ok (.getfield 149, 3) := by decide +kernel
theorem dX5_refusedAt_8 : decode cX5_refusedAt 8 = .ok (.astore_n 3, 1) := by decide +kernel
theorem dX5_refusedAt_9 : decode cX5_refusedAt 9 = .ok (.iload_n 2, 1) := by decide +kernel
theorem dX5_refusedAt_10 : decode cX5_refusedAt 10 = .ok (.ifCond .lt 11, 3) := by decide +kernel
theorem dX5_refusedAt_13 : decode cX5_refusedAt 13 = .ok (.iload_n 2, 1) := by decide +kernel
theorem dX5_refusedAt_14 : decode cX5_refusedAt 14 = .ok (.aload_n 3, 1) := by decide +kernel
theorem dX5_refusedAt_15 : decode cX5_refusedAt 15 = .ok (.invokevirtual 31, 3) := by decide +kernel
theorem dX5_refusedAt_18 : decode cX5_refusedAt 18 = .ok (.if_icmp .lt 13, 3) := by decide +kernel
theorem dX5_refusedAt_21 : decode cX5_refusedAt 21 = .ok (.new 204, 3) := by decide +kernel
theorem dX5_refusedAt_24 : decode cX5_refusedAt 24 = .ok (.dup, 1) := by decide +kernel
theorem dX5_refusedAt_25 : decode cX5_refusedAt 25 = .ok (.ldc 211, 2) := by decide +kernel
theorem dX5_refusedAt_27 : decode cX5_refusedAt 27 = .ok (.invokespecial 208, 3) := by decide +kernel
theorem dX5_refusedAt_30 : decode cX5_refusedAt 30 = .ok (.athrow, 1) := by decide +kernel
theorem dX5_refusedAt_31 : decode cX5_refusedAt 31 = .ok (.aload_n 3, 1) := by decide +kernel
theorem dX5_refusedAt_32 : decode cX5_refusedAt 32 = .ok (.iload_n 2, 1) := by decide +kernel
theorem dX5_refusedAt_33 : decode cX5_refusedAt 33 = .ok (.invokevirtual 164, 3) := by decide +kernel
theorem dX5_refusedAt_36 : decode cX5_refusedAt 36 = .ok (.checkcast 157, 3) := by decide +kernel
theorem dX5_refusedAt_39 : decode cX5_refusedAt 39 = .ok (.areturn, 1) := by decide +kernel
theorem dX5_fieldsHeld_0 : decode cX5_fieldsHeld 0 = .ok (.aload_n 0, 1) := by decide +kernel
theorem dX5_fieldsHeld_1 : decode cX5_fieldsHeld 1 = .ok (.iload_n 1, 1) := by decide +kernel
theorem dX5_fieldsHeld_2 : decode cX5_fieldsHeld 2 = .ok (.invokevirtual 101, 3) := by decide +kernel
theorem dX5_fieldsHeld_5 : decode cX5_fieldsHeld 5 = .ok (.astore_n 2, 1) := by decide +kernel
theorem dX5_fieldsHeld_6 : decode cX5_fieldsHeld 6 = .ok (.aload_n 2, 1) := by decide +kernel
theorem dX5_fieldsHeld_7 : decode cX5_fieldsHeld 7 = .ok (.ifnonnull 13, 3) := by decide +kernel
theorem dX5_fieldsHeld_10 : decode cX5_fieldsHeld 10 = .ok (.new 35, 3) := by decide +kernel
theorem dX5_fieldsHeld_13 : decode cX5_fieldsHeld 13 = .ok (.dup, 1) := by decide +kernel
theorem dX5_fieldsHeld_14 : decode cX5_fieldsHeld 14 = .ok (.ldc 213, 2) := by decide +kernel
theorem dX5_fieldsHeld_16 : decode cX5_fieldsHeld 16 = .ok (.invokespecial 39, 3) := by decide +kernel
theorem dX5_fieldsHeld_19 : decode cX5_fieldsHeld 19 = .ok (.athrow, 1) := by decide +kernel
theorem dX5_fieldsHeld_20 : decode cX5_fieldsHeld 20 = .ok (.aload_n 2, 1) := by decide +kernel
theorem dX5_fieldsHeld_21 : decode cX5_fieldsHeld 21 = .ok (.areturn, 1) := by decide +kernel
theorem dX5_checkRange_0 : decode cX5_checkRange 0 = .ok (.iload_n 0, 1) := by decide +kernel
theorem dX5_checkRange_1 : decode cX5_checkRange 1 = .ok (.iload_n 1, 1) := by decide +kernel
theorem dX5_checkRange_2 : decode cX5_checkRange 2 = .ok (.if_icmp .lt 8, 3) := by decide +kernel
theorem dX5_checkRange_5 : decode cX5_checkRange 5 = .ok (.iload_n 0, 1) := by decide +kernel
theorem dX5_checkRange_6 : decode cX5_checkRange 6 = .ok (.iload_n 2, 1) := by decide +kernel
theorem dX5_checkRange_7 : decode cX5_checkRange 7 = .ok (.if_icmp .le 13, 3) := by decide +kernel
theorem dX5_checkRange_10 : decode cX5_checkRange 10 = .ok (.new 127, 3) := by decide +kernel
theorem dX5_checkRange_13 : decode cX5_checkRange 13 = .ok (.dup, 1) := by decide +kernel
theorem dX5_checkRange_14 : decode cX5_checkRange 14 = .ok (.ldc 215, 2) := by decide +kernel
theorem dX5_checkRange_16 : decode cX5_checkRange 16 = .ok (.invokespecial 131, 3) := by decide +kernel
theorem dX5_checkRange_19 : decode cX5_checkRange 19 = .ok (.athrow, 1) := by decide +kernel
theorem dX5_checkRange_20 : decode cX5_checkRange 20 = .ok (.return_, 1) := by decide +kernel
theorem dX5_checkField_0 : decode cX5_checkField 0 = .ok (.iload_n 0, 1) := by decide +kernel
theorem dX5_checkField_1 : decode cX5_checkField 1 = .ok (.iconst 0, 1) := by decide +kernel
theorem dX5_checkField_2 : decode cX5_checkField 2 = .ok (.iconst 1, 1) := by decide +kernel
theorem dX5_checkField_3 : decode cX5_checkField 3 = .ok (.invokestatic 27, 3) := by decide +kernel
theorem dX5_checkField_6 : decode cX5_checkField 6 = .ok (.return_, 1) := by decide +kernel
theorem dX5_checkValue_0 : decode cX5_checkValue 0 = .ok (.iload_n 0, 1) := by decide +kernel
theorem dX5_checkValue_1 : decode cX5_checkValue 1 = .ok (.invokestatic 77, 3) := by decide +kernel
theorem dX5_checkValue_4 : decode cX5_checkValue 4 = .ok (.iload_n 1, 1) := by decide +kernel
theorem dX5_checkValue_5 : decode cX5_checkValue 5 = .ok (.iconst 0, 1) := by decide +kernel
theorem dX5_checkValue_6 : decode cX5_checkValue 6 = .ok (.iload_n 0, 1) := by decide +kernel
theorem dX5_checkValue_7 : decode cX5_checkValue 7 = .ok (.ifCond .ne 7, 3) := by decide +kernel
theorem dX5_checkValue_10 : decode cX5_checkValue 10 = .ok (.iconst 2, 1) := by decide +kernel
theorem dX5_checkValue_11 : decode cX5_checkValue 11 = .ok (.goto 6, 3) := by decide +kernel
theorem dX5_checkValue_14 : decode cX5_checkValue 14 = .ok (.sipush 10000, 3) := by decide +kernel
theorem dX5_checkValue_17 : decode cX5_checkValue 17 = .ok (.invokestatic 27, 3) := by decide +kernel
theorem dX5_checkValue_20 : decode cX5_checkValue 20 = .ok (.return_, 1) := by decide +kernel
theorem dJ9_max_7cf53_0 : decode cJ9_max_7cf53 0 = .ok (.iload_n 0, 1) := by decide +kernel
theorem dJ9_max_7cf53_1 : decode cJ9_max_7cf53 1 = .ok (.iload_n 1, 1) := by decide +kernel
theorem dJ9_max_7cf53_2 : decode cJ9_max_7cf53 2 = .ok (.if_icmp .lt 7, 3) := by decide +kernel
theorem dJ9_max_7cf53_5 : decode cJ9_max_7cf53 5 = .ok (.iload_n 0, 1) := by decide +kernel
theorem dJ9_max_7cf53_6 : decode cJ9_max_7cf53 6 = .ok (.goto 4, 3) := by decide +kernel
theorem dJ9_max_7cf53_9 : decode cJ9_max_7cf53 9 = .ok (.iload_n 1, 1) := by decide +kernel
theorem dJ9_max_7cf53_10 : decode cJ9_max_7cf53 10 = .ok (.ireturn, 1) := by decide +kernel
theorem dJ9_min_7cf53_0 : decode cJ9_min_7cf53 0 = .ok (.iload_n 0, 1) := by decide +kernel
theorem dJ9_min_7cf53_1 : decode cJ9_min_7cf53 1 = .ok (.iload_n 1, 1) := by decide +kernel
theorem dJ9_min_7cf53_2 : decode cJ9_min_7cf53 2 = .ok (.if_icmp .gt 7, 3) := by decide +kernel
theorem dJ9_min_7cf53_5 : decode cJ9_min_7cf53 5 = .ok (.iload_n 0, 1) := by decide +kernel
theorem dJ9_min_7cf53_6 : decode cJ9_min_7cf53 6 = .ok (.goto 4, 3) := by decide +kernel
theorem dJ9_min_7cf53_9 : decode cJ9_min_7cf53 9 = .ok (.iload_n 1, 1) := by decide +kernel
theorem dJ9_min_7cf53_10 : decode cJ9_min_7cf53 10 = .ok (.ireturn, 1) := by decide +kernel
theorem dJxa1e45_init_da8c8_0 : decode cJxa1e45_init_da8c8 0 = .ok (.aload_n 0, 1) := by decide +kernel
theorem dJxa1e45_init_da8c8_1 : decode cJxa1e45_init_da8c8 1 = .ok (.invokespecial 1, 3) := by decide +kernel
theorem dJxa1e45_init_da8c8_4 : decode cJxa1e45_init_da8c8 4 = .ok (.return_, 1) := by decide +kernel
theorem dJxc12de_init_da8c8_0 : decode cJxc12de_init_da8c8 0 = .ok (.aload_n 0, 1) := by decide +kernel
theorem dJxc12de_init_da8c8_1 : decode cJxc12de_init_da8c8 1 = .ok (.invokespecial 1, 3) := by decide +kernel
theorem dJxc12de_init_da8c8_4 : decode cJxc12de_init_da8c8 4 = .ok (.aload_n 0, 1) := by decide +kernel
theorem dJxc12de_init_da8c8_5 : decode cJxc12de_init_da8c8 5 = .ok (.iconst 0, 1) := by decide +kernel
theorem dJxc12de_init_da8c8_6 : decode cJxc12de_init_da8c8 6 = .ok (.putfield 7, 3) := by decide +kernel
theorem dJxc12de_init_da8c8_9 : decode cJxc12de_init_da8c8 9 = .ok (.return_, 1) := by decide +kernel
theorem dJx4a65c_init_da8c8_0 : decode cJx4a65c_init_da8c8 0 = .ok (.aload_n 0, 1) := by decide +kernel
theorem dJx4a65c_init_da8c8_1 : decode cJx4a65c_init_da8c8 1 = .ok (.invokespecial 1, 3) := by decide +kernel
theorem dJx4a65c_init_da8c8_4 : decode cJx4a65c_init_da8c8 4 = .ok (.aload_n 0, 1) := by decide +kernel
theorem dJx4a65c_init_da8c8_5 : decode cJx4a65c_init_da8c8 5 = .ok (.getstatic 39, 3) := by decide +kernel
theorem dJx4a65c_init_da8c8_8 : decode cJx4a65c_init_da8c8 8 = .ok (.putfield 9, 3) := by decide +kernel
theorem dJx4a65c_init_da8c8_11 : decode cJx4a65c_init_da8c8 11 = .ok (.return_, 1) := by decide +kernel
theorem dJx4a65c_grow_92f84_0 : decode cJx4a65c_grow_92f84 0 = .ok (.aload_n 0, 1) := by decide +kernel
theorem dJx4a65c_grow_92f84_1 : decode cJx4a65c_grow_92f84 1 = .ok (.getfield 9, 3) := by decide +kernel
theorem dJx4a65c_grow_92f84_4 : decode cJx4a65c_grow_92f84 4 = .ok (.arraylength, 1) := by decide +kernel
theorem dJx4a65c_grow_92f84_5 : decode cJx4a65c_grow_92f84 5 = .ok (.istore_n 2, 1) := by decide +kernel
theorem dJx4a65c_grow_92f84_6 : decode cJx4a65c_grow_92f84 6 = .ok (.iload_n 2, 1) := by decide +kernel
theorem dJx4a65c_grow_92f84_7 : decode cJx4a65c_grow_92f84 7 = .ok (.ifCond .gt 13, 3) := by decide +kernel
theorem dJx4a65c_grow_92f84_10 : decode cJx4a65c_grow_92f84 10 = .ok (.aload_n 0, 1) := by decide +kernel
theorem dJx4a65c_grow_92f84_11 : decode cJx4a65c_grow_92f84 11 = .ok (.getfield 9, 3) := by decide +kernel
theorem dJx4a65c_grow_92f84_14 : decode cJx4a65c_grow_92f84 14 = .ok (.getstatic 39, 3) := by decide +kernel
theorem dJx4a65c_grow_92f84_17 : decode cJx4a65c_grow_92f84 17 = .ok (.if_acmp .eq 28, 3) := by decide +kernel
theorem dJx4a65c_grow_92f84_20 : decode cJx4a65c_grow_92f84 20 = .ok (.iload_n 2, 1) := by decide +kernel
theorem dJx4a65c_grow_92f84_21 : decode cJx4a65c_grow_92f84 21 = .ok (.iload_n 1, 1) := by decide +kernel
theorem dJx4a65c_grow_92f84_22 : decode cJx4a65c_grow_92f84 22 = .ok (.iload_n 2, 1) := by decide +kernel
theorem dJx4a65c_grow_92f84_23 : decode cJx4a65c_grow_92f84 23 = .ok (.isub, 1) := by decide +kernel
theorem dJx4a65c_grow_92f84_24 : decode cJx4a65c_grow_92f84 24 = .ok (.iload_n 2, 1) := by decide +kernel
theorem dJx4a65c_grow_92f84_25 : decode cJx4a65c_grow_92f84 25 = .ok (.iconst 1, 1) := by decide +kernel
theorem dJx4a65c_grow_92f84_26 : decode cJx4a65c_grow_92f84 26 = .ok (.ishr, 1) := by decide +kernel
theorem dJx4a65c_grow_92f84_27 : decode cJx4a65c_grow_92f84 27 = .ok (.invokestatic 73, 3) := by decide +kernel
theorem dJx4a65c_grow_92f84_30 : decode cJx4a65c_grow_92f84 30 = .ok (.istore_n 3, 1) := by decide +kernel
theorem dJx4a65c_grow_92f84_31 : decode cJx4a65c_grow_92f84 31 = .ok (.aload_n 0, 1) := by decide +kernel
theorem dJx4a65c_grow_92f84_32 : decode cJx4a65c_grow_92f84 32 = .ok (.aload_n 0, 1) := by decide +kernel
theorem dJx4a65c_grow_92f84_33 : decode cJx4a65c_grow_92f84 33 = .ok (.getfield 9, 3) := by decide +kernel
theorem dJx4a65c_grow_92f84_36 : decode cJx4a65c_grow_92f84 36 = .ok (.iload_n 3, 1) := by decide +kernel
theorem dJx4a65c_grow_92f84_37 : decode cJx4a65c_grow_92f84 37 = .ok (.invokestatic 66, 3) := by decide +kernel
theorem dJx4a65c_grow_92f84_40 : decode cJx4a65c_grow_92f84 40 = .ok (.dup_x1, 1) := by decide +kernel
theorem dJx4a65c_grow_92f84_41 : decode cJx4a65c_grow_92f84 41 = .ok (.putfield 9, 3) := by decide +kernel
theorem dJx4a65c_grow_92f84_44 : decode cJx4a65c_grow_92f84 44 = .ok (.areturn, 1) := by decide +kernel
theorem dJx4a65c_grow_92f84_45 : decode cJx4a65c_grow_92f84 45 = .ok (.aload_n 0, 1) := by decide +kernel
theorem dJx4a65c_grow_92f84_46 : decode cJx4a65c_grow_92f84 46 = .ok (.bipush 10, 2) := by decide +kernel
theorem dJx4a65c_grow_92f84_48 : decode cJx4a65c_grow_92f84 48 = .ok (.iload_n 1, 1) := by decide +kernel
theorem dJx4a65c_grow_92f84_49 : decode cJx4a65c_grow_92f84 49 = .ok (.invokestatic 79, 3) := by decide +kernel
theorem dJx4a65c_grow_92f84_52 : decode cJx4a65c_grow_92f84 52 = .ok (.anewarray 7, 3) := by decide +kernel
theorem dJx4a65c_grow_92f84_55 : decode cJx4a65c_grow_92f84 55 = .ok (.dup_x1, 1) := by decide +kernel
theorem dJx4a65c_grow_92f84_56 : decode cJx4a65c_grow_92f84 56 = .ok (.putfield 9, 3) := by decide +kernel
theorem dJx4a65c_grow_92f84_59 : decode cJx4a65c_grow_92f84 59 = .ok (.areturn, 1) := by decide +kernel
theorem dJx4a65c_grow_d5877_0 : decode cJx4a65c_grow_d5877 0 = .ok (.aload_n 0, 1) := by decide +kernel
theorem dJx4a65c_grow_d5877_1 : decode cJx4a65c_grow_d5877 1 = .ok (.aload_n 0, 1) := by decide +kernel
theorem dJx4a65c_grow_d5877_2 : decode cJx4a65c_grow_d5877 2 = .ok (.getfield 48, 3) := by decide +kernel
theorem dJx4a65c_grow_d5877_5 : decode cJx4a65c_grow_d5877 5 = .ok (.iconst 1, 1) := by decide +kernel
theorem dJx4a65c_grow_d5877_6 : decode cJx4a65c_grow_d5877 6 = .ok (.iadd, 1) := by decide +kernel
theorem dJx4a65c_grow_d5877_7 : decode cJx4a65c_grow_d5877 7 = .ok (.invokevirtual 69, 3) := by decide +kernel
theorem dJx4a65c_grow_d5877_10 : decode cJx4a65c_grow_d5877 10 = .ok (.areturn, 1) := by decide +kernel
theorem dJx4a65c_size_8abf5_0 : decode cJx4a65c_size_8abf5 0 = .ok (.aload_n 0, 1) := by decide +kernel
theorem dJx4a65c_size_8abf5_1 : decode cJx4a65c_size_8abf5 1 = .ok (.getfield 48, 3) := by decide +kernel
theorem dJx4a65c_size_8abf5_4 : decode cJx4a65c_size_8abf5 4 = .ok (.ireturn, 1) := by decide +kernel
theorem dJx4a65c_elementData_915e3_0 : decode cJx4a65c_elementData_915e3 0 = .ok (.aload_n 0, 1) := by decide +kernel
theorem dJx4a65c_elementData_915e3_1 : decode cJx4a65c_elementData_915e3 1 = .ok (.getfield 9, 3) := by decide +kernel
theorem dJx4a65c_elementData_915e3_4 : decode cJx4a65c_elementData_915e3 4 = .ok (.iload_n 1, 1) := by decide +kernel
theorem dJx4a65c_elementData_915e3_5 : decode cJx4a65c_elementData_915e3 5 = .ok (.aaload, 1) := by decide +kernel
theorem dJx4a65c_elementData_915e3_6 : decode cJx4a65c_elementData_915e3 6 = .ok (.areturn, 1) := by decide +kernel
theorem dJx4a65c_get_915e3_0 : decode cJx4a65c_get_915e3 0 = .ok (.iload_n 1, 1) := by decide +kernel
theorem dJx4a65c_get_915e3_1 : decode cJx4a65c_get_915e3 1 = .ok (.aload_n 0, 1) := by decide +kernel
theorem dJx4a65c_get_915e3_2 : decode cJx4a65c_get_915e3 2 = .ok (.getfield 48, 3) := by decide +kernel
theorem dJx4a65c_get_915e3_5 : decode cJx4a65c_get_915e3 5 = .ok (.invokestatic 118, 3) := by decide +kernel
theorem dJx4a65c_get_915e3_8 : decode cJx4a65c_get_915e3 8 = .ok (.pop, 1) := by decide +kernel
theorem dJx4a65c_get_915e3_9 : decode cJx4a65c_get_915e3 9 = .ok (.aload_n 0, 1) := by decide +kernel
theorem dJx4a65c_get_915e3_10 : decode cJx4a65c_get_915e3 10 = .ok (.iload_n 1, 1) := by decide +kernel
theorem dJx4a65c_get_915e3_11 : decode cJx4a65c_get_915e3 11 = .ok (.invokevirtual 123, 3) := by decide +kernel
theorem dJx4a65c_get_915e3_14 : decode cJx4a65c_get_915e3 14 = .ok (.areturn, 1) := by decide +kernel
theorem dJx4a65c_add_72be8_0 : decode cJx4a65c_add_72be8 0 = .ok (.iload_n 3, 1) := by decide +kernel
theorem dJx4a65c_add_72be8_1 : decode cJx4a65c_add_72be8 1 = .ok (.aload_n 2, 1) := by decide +kernel
theorem dJx4a65c_add_72be8_2 : decode cJx4a65c_add_72be8 2 = .ok (.arraylength, 1) := by decide +kernel
theorem dJx4a65c_add_72be8_3 : decode cJx4a65c_add_72be8 3 = .ok (.if_icmp .ne 8, 3) := by decide +kernel
theorem dJx4a65c_add_72be8_6 : decode cJx4a65c_add_72be8 6 = .ok (.aload_n 0, 1) := by decide +kernel
theorem dJx4a65c_add_72be8_7 : decode cJx4a65c_add_72be8 7 = .ok (.invokevirtual 129, 3) := by decide +kernel
theorem dJx4a65c_add_72be8_10 : decode cJx4a65c_add_72be8 10 = .ok (.astore_n 2, 1) := by decide +kernel
theorem dJx4a65c_add_72be8_11 : decode cJx4a65c_add_72be8 11 = .ok (.aload_n 2, 1) := by decide +kernel
theorem dJx4a65c_add_72be8_12 : decode cJx4a65c_add_72be8 12 = .ok (.iload_n 3, 1) := by decide +kernel
theorem dJx4a65c_add_72be8_13 : decode cJx4a65c_add_72be8 13 = .ok (.aload_n 1, 1) := by decide +kernel
theorem dJx4a65c_add_72be8_14 : decode cJx4a65c_add_72be8 14 = .ok (.aastore, 1) := by decide +kernel
theorem dJx4a65c_add_72be8_15 : decode cJx4a65c_add_72be8 15 = .ok (.aload_n 0, 1) := by decide +kernel
theorem dJx4a65c_add_72be8_16 : decode cJx4a65c_add_72be8 16 = .ok (.iload_n 3, 1) := by decide +kernel
theorem dJx4a65c_add_72be8_17 : decode cJx4a65c_add_72be8 17 = .ok (.iconst 1, 1) := by decide +kernel
theorem dJx4a65c_add_72be8_18 : decode cJx4a65c_add_72be8 18 = .ok (.iadd, 1) := by decide +kernel
theorem dJx4a65c_add_72be8_19 : decode cJx4a65c_add_72be8 19 = .ok (.putfield 48, 3) := by decide +kernel
theorem dJx4a65c_add_72be8_22 : decode cJx4a65c_add_72be8 22 = .ok (.return_, 1) := by decide +kernel
theorem dJx4a65c_add_9ea2d_0 : decode cJx4a65c_add_9ea2d 0 = .ok (.aload_n 0, 1) := by decide +kernel
theorem dJx4a65c_add_9ea2d_1 : decode cJx4a65c_add_9ea2d 1 = .ok (.dup, 1) := by decide +kernel
theorem dJx4a65c_add_9ea2d_2 : decode cJx4a65c_add_9ea2d 2 = .ok (.getfield 63, 3) := by decide +kernel
theorem dJx4a65c_add_9ea2d_5 : decode cJx4a65c_add_9ea2d 5 = .ok (.iconst 1, 1) := by decide +kernel
theorem dJx4a65c_add_9ea2d_6 : decode cJx4a65c_add_9ea2d 6 = .ok (.iadd, 1) := by decide +kernel
theorem dJx4a65c_add_9ea2d_7 : decode cJx4a65c_add_9ea2d 7 = .ok (.putfield 63, 3) := by decide +kernel
theorem dJx4a65c_add_9ea2d_10 : decode cJx4a65c_add_9ea2d 10 = .ok (.aload_n 0, 1) := by decide +kernel
theorem dJx4a65c_add_9ea2d_11 : decode cJx4a65c_add_9ea2d 11 = .ok (.aload_n 1, 1) := by decide +kernel
theorem dJx4a65c_add_9ea2d_12 : decode cJx4a65c_add_9ea2d 12 = .ok (.aload_n 0, 1) := by decide +kernel
theorem dJx4a65c_add_9ea2d_13 : decode cJx4a65c_add_9ea2d 13 = .ok (.getfield 9, 3) := by decide +kernel
theorem dJx4a65c_add_9ea2d_16 : decode cJx4a65c_add_9ea2d 16 = .ok (.aload_n 0, 1) := by decide +kernel
theorem dJx4a65c_add_9ea2d_17 : decode cJx4a65c_add_9ea2d 17 = .ok (.getfield 48, 3) := by decide +kernel
theorem dJx4a65c_add_9ea2d_20 : decode cJx4a65c_add_9ea2d 20 = .ok (.invokevirtual 131, 3) := by decide +kernel
theorem dJx4a65c_add_9ea2d_23 : decode cJx4a65c_add_9ea2d 23 = .ok (.iconst 1, 1) := by decide +kernel
theorem dJx4a65c_add_9ea2d_24 : decode cJx4a65c_add_9ea2d 24 = .ok (.ireturn, 1) := by decide +kernel
theorem dJ7_copyOf_1904c_0 : decode cJ7_copyOf_1904c 0 = .ok (.aload_n 0, 1) := by decide +kernel
theorem dJ7_copyOf_1904c_1 : decode cJ7_copyOf_1904c 1 = .ok (.iload_n 1, 1) := by decide +kernel
theorem dJ7_copyOf_1904c_2 : decode cJ7_copyOf_1904c 2 = .ok (.aload_n 0, 1) := by decide +kernel
theorem dJ7_copyOf_1904c_3 : decode cJ7_copyOf_1904c 3 = .ok (.invokevirtual 86, 3) := by decide +kernel
theorem dJ7_copyOf_1904c_6 : decode cJ7_copyOf_1904c 6 = .ok (.invokestatic 300, 3) := by decide +kernel
theorem dJ7_copyOf_1904c_9 : decode cJ7_copyOf_1904c 9 = .ok (.areturn, 1) := by decide +kernel
theorem dJ7_copyOf_6403c_0 : decode cJ7_copyOf_6403c 0 = .ok (.aload_n 2, 1) := by decide +kernel
theorem dJ7_copyOf_6403c_1 : decode cJ7_copyOf_6403c 1 = .ok (.ldc 110, 2) := by decide +kernel
theorem dJ7_copyOf_6403c_3 : decode cJ7_copyOf_6403c 3 = .ok (.if_acmp .ne 10, 3) := by decide +kernel
theorem dJ7_copyOf_6403c_6 : decode cJ7_copyOf_6403c 6 = .ok (.iload_n 1, 1) := by decide +kernel
theorem dJ7_copyOf_6403c_7 : decode cJ7_copyOf_6403c 7 = .ok (.anewarray 2, 3) := by decide +kernel
theorem dJ7_copyOf_6403c_10 : decode cJ7_copyOf_6403c 10 = .ok (.goto 14, 3) := by decide +kernel
theorem dJ7_copyOf_6403c_13 : decode cJ7_copyOf_6403c 13 = .ok (.aload_n 2, 1) := by decide +kernel
theorem dJ7_copyOf_6403c_14 : decode cJ7_copyOf_6403c 14 = .ok (.invokevirtual 90, 3) := by decide +kernel
theorem dJ7_copyOf_6403c_17 : decode cJ7_copyOf_6403c 17 = .ok (.iload_n 1, 1) := by decide +kernel
theorem dJ7_copyOf_6403c_18 : decode cJ7_copyOf_6403c 18 = .ok (.invokestatic 95, 3) := by decide +kernel
theorem dJ7_copyOf_6403c_21 : decode cJ7_copyOf_6403c 21 = .ok (.checkcast 110, 3) := by decide +kernel
theorem dJ7_copyOf_6403c_24 : decode cJ7_copyOf_6403c 24 = .ok (.astore_n 3, 1) := by decide +kernel
theorem dJ7_copyOf_6403c_25 : decode cJ7_copyOf_6403c 25 = .ok (.aload_n 0, 1) := by decide +kernel
theorem dJ7_copyOf_6403c_26 : decode cJ7_copyOf_6403c 26 = .ok (.iconst 0, 1) := by decide +kernel
theorem dJ7_copyOf_6403c_27 : decode cJ7_copyOf_6403c 27 = .ok (.aload_n 3, 1) := by decide +kernel
theorem dJ7_copyOf_6403c_28 : decode cJ7_copyOf_6403c 28 = .ok (.iconst 0, 1) := by decide +kernel
theorem dJ7_copyOf_6403c_29 : decode cJ7_copyOf_6403c 29 = .ok (.aload_n 0, 1) := by decide +kernel
theorem dJ7_copyOf_6403c_30 : decode cJ7_copyOf_6403c 30 = .ok (.arraylength, 1) := by decide +kernel
theorem dJ7_copyOf_6403c_31 : decode cJ7_copyOf_6403c 31 = .ok (.iload_n 1, 1) := by decide +kernel
theorem dJ7_copyOf_6403c_32 : decode cJ7_copyOf_6403c 32 = .ok (.invokestatic 304, 3) := by decide +kernel
theorem dJ7_copyOf_6403c_35 : decode cJ7_copyOf_6403c 35 = .ok (.invokestatic 150, 3) := by decide +kernel
theorem dJ7_copyOf_6403c_38 : decode cJ7_copyOf_6403c 38 = .ok (.aload_n 3, 1) := by decide +kernel
theorem dJ7_copyOf_6403c_39 : decode cJ7_copyOf_6403c 39 = .ok (.areturn, 1) := by decide +kernel
theorem dJ15_checkIndex_7cf53_0 : decode cJ15_checkIndex_7cf53 0 = .ok (.iload_n 0, 1) := by decide +kernel
theorem dJ15_checkIndex_7cf53_1 : decode cJ15_checkIndex_7cf53 1 = .ok (.iload_n 1, 1) := by decide +kernel
theorem dJ15_checkIndex_7cf53_2 : decode cJ15_checkIndex_7cf53 2 = .ok (.aconst_null, 1) := by decide +kernel
theorem dJ15_checkIndex_7cf53_3 : decode cJ15_checkIndex_7cf53 3 = .ok (.invokestatic 105, 3) := by decide +kernel
theorem dJ15_checkIndex_7cf53_6 : decode cJ15_checkIndex_7cf53 6 = .ok (.ireturn, 1) := by decide +kernel
theorem dJ8_newLength_cabcc_0 : decode cJ8_newLength_cabcc 0 = .ok (.iload_n 0, 1) := by decide +kernel
theorem dJ8_newLength_cabcc_1 : decode cJ8_newLength_cabcc 1 = .ok (.iload_n 1, 1) := by decide +kernel
theorem dJ8_newLength_cabcc_2 : decode cJ8_newLength_cabcc 2 = .ok (.iload_n 2, 1) := by decide +kernel
theorem dJ8_newLength_cabcc_3 : decode cJ8_newLength_cabcc 3 = .ok (.invokestatic 194, 3) := by decide +kernel
theorem dJ8_newLength_cabcc_6 : decode cJ8_newLength_cabcc 6 = .ok (.iadd, 1) := by decide +kernel
theorem dJ8_newLength_cabcc_7 : decode cJ8_newLength_cabcc 7 = .ok (.istore_n 3, 1) := by decide +kernel
theorem dJ8_newLength_cabcc_8 : decode cJ8_newLength_cabcc 8 = .ok (.iconst 0, 1) := by decide +kernel
theorem dJ8_newLength_cabcc_9 : decode cJ8_newLength_cabcc 9 = .ok (.iload_n 3, 1) := by decide +kernel
theorem dJ8_newLength_cabcc_10 : decode cJ8_newLength_cabcc 10 = .ok (.if_icmp .ge 11, 3) := by decide +kernel
theorem dJ8_newLength_cabcc_13 : decode cJ8_newLength_cabcc 13 = .ok (.iload_n 3, 1) := by decide +kernel
theorem dJ8_newLength_cabcc_14 : decode cJ8_newLength_cabcc 14 = .ok (.ldc 200, 2) := by decide +kernel
theorem dJ8_newLength_cabcc_16 : decode cJ8_newLength_cabcc 16 = .ok (.if_icmp .gt 5, 3) := by decide +kernel
theorem dJ8_newLength_cabcc_19 : decode cJ8_newLength_cabcc 19 = .ok (.iload_n 3, 1) := by decide +kernel
theorem dJ8_newLength_cabcc_20 : decode cJ8_newLength_cabcc 20 = .ok (.ireturn, 1) := by decide +kernel
theorem dJ8_newLength_cabcc_21 : decode cJ8_newLength_cabcc 21 = .ok (.iload_n 0, 1) := by decide +kernel
theorem dJ8_newLength_cabcc_22 : decode cJ8_newLength_cabcc 22 = .ok (.iload_n 1, 1) := by decide +kernel
theorem dJ8_newLength_cabcc_23 : decode cJ8_newLength_cabcc 23 = .ok (.invokestatic 201, 3) := by decide +kernel
theorem dJ8_newLength_cabcc_26 : decode cJ8_newLength_cabcc 26 = .ok (.ireturn, 1) := by decide +kernel
theorem dJ8_hugeLength_7cf53_0 : decode cJ8_hugeLength_7cf53 0 = .ok (.iload_n 0, 1) := by decide +kernel
theorem dJ8_hugeLength_7cf53_1 : decode cJ8_hugeLength_7cf53 1 = .ok (.iload_n 1, 1) := by decide +kernel
theorem dJ8_hugeLength_7cf53_2 : decode cJ8_hugeLength_7cf53 2 = .ok (.iadd, 1) := by decide +kernel
theorem dJ8_hugeLength_7cf53_3 : decode cJ8_hugeLength_7cf53 3 = .ok (.istore_n 2, 1) := by decide +kernel
theorem dJ8_hugeLength_7cf53_4 : decode cJ8_hugeLength_7cf53 4 = .ok (.iload_n 2, 1) := by decide +kernel
theorem dJ8_hugeLength_7cf53_5 : decode cJ8_hugeLength_7cf53 5 = .ok (.ifCond .ge 44, 3) := by decide +kernel
theorem dJ8_hugeLength_7cf53_8 : decode cJ8_hugeLength_7cf53 8 = .ok (.new 204, 3) := by decide +kernel
theorem dJ8_hugeLength_7cf53_11 : decode cJ8_hugeLength_7cf53 11 = .ok (.dup, 1) := by decide +kernel
theorem dJ8_hugeLength_7cf53_12 : decode cJ8_hugeLength_7cf53 12 = .ok (.new 89, 3) := by decide +kernel
theorem dJ8_hugeLength_7cf53_15 : decode cJ8_hugeLength_7cf53 15 = .ok (.dup, 1) := by decide +kernel
theorem dJ8_hugeLength_7cf53_16 : decode cJ8_hugeLength_7cf53 16 = .ok (.invokespecial 91, 3) := by decide +kernel
theorem dJ8_hugeLength_7cf53_19 : decode cJ8_hugeLength_7cf53 19 = .ok (.ldc 206, 2) := by decide +kernel
theorem dJ8_hugeLength_7cf53_21 : decode cJ8_hugeLength_7cf53 21 = .ok (.invokevirtual 94, 3) := by decide +kernel
theorem dJ8_hugeLength_7cf53_24 : decode cJ8_hugeLength_7cf53 24 = .ok (.iload_n 0, 1) := by decide +kernel
theorem dJ8_hugeLength_7cf53_25 : decode cJ8_hugeLength_7cf53 25 = .ok (.invokevirtual 98, 3) := by decide +kernel
theorem dJ8_hugeLength_7cf53_28 : decode cJ8_hugeLength_7cf53 28 = .ok (.ldc 208, 2) := by decide +kernel
theorem dJ8_hugeLength_7cf53_30 : decode cJ8_hugeLength_7cf53 30 = .ok (.invokevirtual 94, 3) := by decide +kernel
theorem dJ8_hugeLength_7cf53_33 : decode cJ8_hugeLength_7cf53 33 = .ok (.iload_n 1, 1) := by decide +kernel
theorem dJ8_hugeLength_7cf53_34 : decode cJ8_hugeLength_7cf53 34 = .ok (.invokevirtual 98, 3) := by decide +kernel
theorem dJ8_hugeLength_7cf53_37 : decode cJ8_hugeLength_7cf53 37 = .ok (.ldc 210, 2) := by decide +kernel
theorem dJ8_hugeLength_7cf53_39 : decode cJ8_hugeLength_7cf53 39 = .ok (.invokevirtual 94, 3) := by decide +kernel
theorem dJ8_hugeLength_7cf53_42 : decode cJ8_hugeLength_7cf53 42 = .ok (.invokevirtual 101, 3) := by decide +kernel
theorem dJ8_hugeLength_7cf53_45 : decode cJ8_hugeLength_7cf53 45 = .ok (.invokespecial 212, 3) := by decide +kernel
theorem dJ8_hugeLength_7cf53_48 : decode cJ8_hugeLength_7cf53 48 = .ok (.athrow, 1) := by decide +kernel
theorem dJ8_hugeLength_7cf53_49 : decode cJ8_hugeLength_7cf53 49 = .ok (.iload_n 2, 1) := by decide +kernel
theorem dJ8_hugeLength_7cf53_50 : decode cJ8_hugeLength_7cf53 50 = .ok (.ldc 200, 2) := by decide +kernel
theorem dJ8_hugeLength_7cf53_52 : decode cJ8_hugeLength_7cf53 52 = .ok (.if_icmp .gt 6, 3) := by decide +kernel
theorem dJ8_hugeLength_7cf53_55 : decode cJ8_hugeLength_7cf53 55 = .ok (.ldc 200, 2) := by decide +kernel
theorem dJ8_hugeLength_7cf53_57 : decode cJ8_hugeLength_7cf53 57 = .ok (.ireturn, 1) := by decide +kernel
theorem dJ8_hugeLength_7cf53_58 : decode cJ8_hugeLength_7cf53 58 = .ok (.iload_n 2, 1) := by decide +kernel
theorem dJ8_hugeLength_7cf53_59 : decode cJ8_hugeLength_7cf53 59 = .ok (.ireturn, 1) := by decide +kernel
theorem dJ3_checkIndex_8e157_0 : decode cJ3_checkIndex_8e157 0 = .ok (.iload_n 0, 1) := by decide +kernel
theorem dJ3_checkIndex_8e157_1 : decode cJ3_checkIndex_8e157 1 = .ok (.ifCond .lt 8, 3) := by decide +kernel
theorem dJ3_checkIndex_8e157_4 : decode cJ3_checkIndex_8e157 4 = .ok (.iload_n 0, 1) := by decide +kernel
theorem dJ3_checkIndex_8e157_5 : decode cJ3_checkIndex_8e157 5 = .ok (.iload_n 1, 1) := by decide +kernel
theorem dJ3_checkIndex_8e157_6 : decode cJ3_checkIndex_8e157 6 = .ok (.if_icmp .lt 10, 3) := by decide +kernel
theorem dJ3_checkIndex_8e157_9 : decode cJ3_checkIndex_8e157 9 = .ok (.aload_n 2, 1) := by decide +kernel
theorem dJ3_checkIndex_8e157_10 : decode cJ3_checkIndex_8e157 10 = .ok (.iload_n 0, 1) := by decide +kernel
theorem dJ3_checkIndex_8e157_11 : decode cJ3_checkIndex_8e157 11 = .ok (.iload_n 1, 1) := by decide +kernel
theorem dJ3_checkIndex_8e157_12 : decode cJ3_checkIndex_8e157 12 = .ok (.invokestatic 95, 3) := by decide +kernel
theorem dJ3_checkIndex_8e157_15 : decode cJ3_checkIndex_8e157 15 = .ok (.athrow, 1) := by decide +kernel
theorem dJ3_checkIndex_8e157_16 : decode cJ3_checkIndex_8e157 16 = .ok (.iload_n 0, 1) := by decide +kernel
theorem dJ3_checkIndex_8e157_17 : decode cJ3_checkIndex_8e157 17 = .ok (.ireturn, 1) := by decide +kernel
theorem dL_adds_0 : decode cL_adds 0 = .ok (.aload_n 0, 1) := by decide +kernel
theorem dL_adds_1 : decode cL_adds 1 = .ok (.iload_n 1, 1) := by decide +kernel
theorem dL_adds_2 : decode cL_adds 2 = .ok (.iload_n 2, 1) := by decide +kernel
theorem dL_adds_3 : decode cL_adds 3 = .ok (.invokevirtual 7, 3) := by decide +kernel
theorem dL_adds_6 : decode cL_adds 6 = .ok (.ireturn, 1) := by decide +kernel
theorem dL_adds_7 : decode cL_adds 7 = .ok (.astore_n 3, 1) := by decide +kernel
theorem dL_adds_8 : decode cL_adds 8 = .ok (.ldc 15, 2) := by decide +kernel
theorem dL_adds_10 : decode cL_adds 10 = .ok (.ireturn, 1) := by decide +kernel
theorem dL_adds_11 : decode cL_adds 11 = .ok (.astore_n 3, 1) := by decide +kernel
theorem dL_adds_12 : decode cL_adds 12 = .ok (.ldc 18, 2) := by decide +kernel
theorem dL_adds_14 : decode cL_adds 14 = .ok (.ireturn, 1) := by decide +kernel
theorem dL_gives_0 : decode cL_gives 0 = .ok (.aload_n 0, 1) := by decide +kernel
theorem dL_gives_1 : decode cL_gives 1 = .ok (.iload_n 1, 1) := by decide +kernel
theorem dL_gives_2 : decode cL_gives 2 = .ok (.iload_n 2, 1) := by decide +kernel
theorem dL_gives_3 : decode cL_gives 3 = .ok (.invokevirtual 19, 3) := by decide +kernel
theorem dL_gives_6 : decode cL_gives 6 = .ok (.ireturn, 1) := by decide +kernel
theorem dL_gives_7 : decode cL_gives 7 = .ok (.astore_n 3, 1) := by decide +kernel
theorem dL_gives_8 : decode cL_gives 8 = .ok (.ldc 24, 2) := by decide +kernel
theorem dL_gives_10 : decode cL_gives 10 = .ok (.ireturn, 1) := by decide +kernel
theorem dL_gives_11 : decode cL_gives 11 = .ok (.astore_n 3, 1) := by decide +kernel
theorem dL_gives_12 : decode cL_gives 12 = .ok (.ldc 15, 2) := by decide +kernel
theorem dL_gives_14 : decode cL_gives 14 = .ok (.ireturn, 1) := by decide +kernel
theorem dL_sets_0 : decode cL_sets 0 = .ok (.aload_n 0, 1) := by decide +kernel
theorem dL_sets_1 : decode cL_sets 1 = .ok (.iload_n 1, 1) := by decide +kernel
theorem dL_sets_2 : decode cL_sets 2 = .ok (.iload_n 2, 1) := by decide +kernel
theorem dL_sets_3 : decode cL_sets 3 = .ok (.iload_n 3, 1) := by decide +kernel
theorem dL_sets_4 : decode cL_sets 4 = .ok (.invokevirtual 25, 3) := by decide +kernel
theorem dL_sets_7 : decode cL_sets 7 = .ok (.ireturn, 1) := by decide +kernel
theorem dL_sets_8 : decode cL_sets 8 = .ok (.astore 4, 2) := by decide +kernel
theorem dL_sets_10 : decode cL_sets 10 = .ok (.ldc 24, 2) := by decide +kernel
theorem dL_sets_12 : decode cL_sets 12 = .ok (.ireturn, 1) := by decide +kernel
theorem dL_sets_13 : decode cL_sets 13 = .ok (.astore 4, 2) := by decide +kernel
theorem dL_sets_15 : decode cL_sets 15 = .ok (.ldc 15, 2) := by decide +kernel
theorem dL_sets_17 : decode cL_sets 17 = .ok (.ireturn, 1) := by decide +kernel
theorem dL_crew_0 : decode cL_crew 0 = .ok (.aload_n 0, 1) := by decide +kernel
theorem dL_crew_1 : decode cL_crew 1 = .ok (.iload_n 1, 1) := by decide +kernel
theorem dL_crew_2 : decode cL_crew 2 = .ok (.invokevirtual 29, 3) := by decide +kernel
theorem dL_crew_5 : decode cL_crew 5 = .ok (.ireturn, 1) := by decide +kernel
theorem dL_crew_6 : decode cL_crew 6 = .ok (.astore_n 2, 1) := by decide +kernel
theorem dL_crew_7 : decode cL_crew 7 = .ok (.ldc 24, 2) := by decide +kernel
theorem dL_crew_9 : decode cL_crew 9 = .ok (.ireturn, 1) := by decide +kernel
theorem dL_site_0 : decode cL_site 0 = .ok (.aload_n 0, 1) := by decide +kernel
theorem dL_site_1 : decode cL_site 1 = .ok (.iload_n 1, 1) := by decide +kernel
theorem dL_site_2 : decode cL_site 2 = .ok (.invokevirtual 33, 3) := by decide +kernel
theorem dL_site_5 : decode cL_site 5 = .ok (.ireturn, 1) := by decide +kernel
theorem dL_site_6 : decode cL_site 6 = .ok (.astore_n 2, 1) := by decide +kernel
theorem dL_site_7 : decode cL_site 7 = .ok (.ldc 24, 2) := by decide +kernel
theorem dL_site_9 : decode cL_site 9 = .ok (.ireturn, 1) := by decide +kernel
theorem dL_value_0 : decode cL_value 0 = .ok (.aload_n 0, 1) := by decide +kernel
theorem dL_value_1 : decode cL_value 1 = .ok (.iload_n 1, 1) := by decide +kernel
theorem dL_value_2 : decode cL_value 2 = .ok (.iload_n 2, 1) := by decide +kernel
theorem dL_value_3 : decode cL_value 3 = .ok (.invokevirtual 36, 3) := by decide +kernel
theorem dL_value_6 : decode cL_value 6 = .ok (.ireturn, 1) := by decide +kernel
theorem dL_value_7 : decode cL_value 7 = .ok (.astore_n 3, 1) := by decide +kernel
theorem dL_value_8 : decode cL_value 8 = .ok (.ldc 24, 2) := by decide +kernel
theorem dL_value_10 : decode cL_value 10 = .ok (.ireturn, 1) := by decide +kernel
theorem dL_value_11 : decode cL_value 11 = .ok (.astore_n 3, 1) := by decide +kernel
theorem dL_value_12 : decode cL_value 12 = .ok (.ldc 15, 2) := by decide +kernel
theorem dL_value_14 : decode cL_value 14 = .ok (.ireturn, 1) := by decide +kernel
theorem dL_version_0 : decode cL_version 0 = .ok (.aload_n 0, 1) := by decide +kernel
theorem dL_version_1 : decode cL_version 1 = .ok (.iload_n 1, 1) := by decide +kernel
theorem dL_version_2 : decode cL_version 2 = .ok (.iload_n 2, 1) := by decide +kernel
theorem dL_version_3 : decode cL_version 3 = .ok (.invokevirtual 39, 3) := by decide +kernel
theorem dL_version_6 : decode cL_version 6 = .ok (.ireturn, 1) := by decide +kernel
theorem dL_version_7 : decode cL_version 7 = .ok (.astore_n 3, 1) := by decide +kernel
theorem dL_version_8 : decode cL_version 8 = .ok (.ldc 24, 2) := by decide +kernel
theorem dL_version_10 : decode cL_version 10 = .ok (.ireturn, 1) := by decide +kernel
theorem dL_version_11 : decode cL_version 11 = .ok (.astore_n 3, 1) := by decide +kernel
theorem dL_version_12 : decode cL_version 12 = .ok (.ldc 15, 2) := by decide +kernel
theorem dL_version_14 : decode cL_version 14 = .ok (.ireturn, 1) := by decide +kernel
theorem dL_rooms_0 : decode cL_rooms 0 = .ok (.aload_n 0, 1) := by decide +kernel
theorem dL_rooms_1 : decode cL_rooms 1 = .ok (.iload_n 1, 1) := by decide +kernel
theorem dL_rooms_2 : decode cL_rooms 2 = .ok (.iload_n 2, 1) := by decide +kernel
theorem dL_rooms_3 : decode cL_rooms 3 = .ok (.invokevirtual 42, 3) := by decide +kernel
theorem dL_rooms_6 : decode cL_rooms 6 = .ok (.ireturn, 1) := by decide +kernel
theorem dL_rooms_7 : decode cL_rooms 7 = .ok (.astore_n 3, 1) := by decide +kernel
theorem dL_rooms_8 : decode cL_rooms 8 = .ok (.ldc 24, 2) := by decide +kernel
theorem dL_rooms_10 : decode cL_rooms 10 = .ok (.ireturn, 1) := by decide +kernel
theorem dL_rooms_11 : decode cL_rooms 11 = .ok (.astore_n 3, 1) := by decide +kernel
theorem dL_rooms_12 : decode cL_rooms 12 = .ok (.ldc 15, 2) := by decide +kernel
theorem dL_rooms_14 : decode cL_rooms 14 = .ok (.ireturn, 1) := by decide +kernel
theorem dL_fetches_0 : decode cL_fetches 0 = .ok (.aload_n 0, 1) := by decide +kernel
theorem dL_fetches_1 : decode cL_fetches 1 = .ok (.iload_n 1, 1) := by decide +kernel
theorem dL_fetches_2 : decode cL_fetches 2 = .ok (.invokevirtual 45, 3) := by decide +kernel
theorem dL_fetches_5 : decode cL_fetches 5 = .ok (.ireturn, 1) := by decide +kernel
theorem dL_fetches_6 : decode cL_fetches 6 = .ok (.astore_n 2, 1) := by decide +kernel
theorem dL_fetches_7 : decode cL_fetches 7 = .ok (.ldc 24, 2) := by decide +kernel
theorem dL_fetches_9 : decode cL_fetches 9 = .ok (.ireturn, 1) := by decide +kernel
theorem dL_held_0 : decode cL_held 0 = .ok (.aload_n 0, 1) := by decide +kernel
theorem dL_held_1 : decode cL_held 1 = .ok (.iload_n 1, 1) := by decide +kernel
theorem dL_held_2 : decode cL_held 2 = .ok (.invokevirtual 48, 3) := by decide +kernel
theorem dL_held_5 : decode cL_held 5 = .ok (.ireturn, 1) := by decide +kernel
theorem dL_held_6 : decode cL_held 6 = .ok (.astore_n 2, 1) := by decide +kernel
theorem dL_held_7 : decode cL_held 7 = .ok (.ldc 24, 2) := by decide +kernel
theorem dL_held_9 : decode cL_held 9 = .ok (.ireturn, 1) := by decide +kernel
theorem dL_holds_0 : decode cL_holds 0 = .ok (.aload_n 0, 1) := by decide +kernel
theorem dL_holds_1 : decode cL_holds 1 = .ok (.iload_n 1, 1) := by decide +kernel
theorem dL_holds_2 : decode cL_holds 2 = .ok (.iload_n 2, 1) := by decide +kernel
theorem dL_holds_3 : decode cL_holds 3 = .ok (.invokevirtual 51, 3) := by decide +kernel
theorem dL_holds_6 : decode cL_holds 6 = .ok (.ifCond .eq 7, 3) := by decide +kernel
theorem dL_holds_9 : decode cL_holds 9 = .ok (.iconst 1, 1) := by decide +kernel
theorem dL_holds_10 : decode cL_holds 10 = .ok (.goto 4, 3) := by decide +kernel
theorem dL_holds_13 : decode cL_holds 13 = .ok (.iconst 0, 1) := by decide +kernel
theorem dL_holds_14 : decode cL_holds 14 = .ok (.ireturn, 1) := by decide +kernel
theorem dL_holds_15 : decode cL_holds 15 = .ok (.astore_n 3, 1) := by decide +kernel
theorem dL_holds_16 : decode cL_holds 16 = .ok (.ldc 24, 2) := by decide +kernel
theorem dL_holds_18 : decode cL_holds 18 = .ok (.ireturn, 1) := by decide +kernel
theorem dL_heldValue_0 : decode cL_heldValue 0 = .ok (.aload_n 0, 1) := by decide +kernel
theorem dL_heldValue_1 : decode cL_heldValue 1 = .ok (.iload_n 1, 1) := by decide +kernel
theorem dL_heldValue_2 : decode cL_heldValue 2 = .ok (.iload_n 2, 1) := by decide +kernel
theorem dL_heldValue_3 : decode cL_heldValue 3 = .ok (.iload_n 3, 1) := by decide +kernel
theorem dL_heldValue_4 : decode cL_heldValue 4 = .ok (.invokevirtual 55, 3) := by decide +kernel
theorem dL_heldValue_7 : decode cL_heldValue 7 = .ok (.ireturn, 1) := by decide +kernel
theorem dL_heldValue_8 : decode cL_heldValue 8 = .ok (.astore 4, 2) := by decide +kernel
theorem dL_heldValue_10 : decode cL_heldValue 10 = .ok (.ldc 24, 2) := by decide +kernel
theorem dL_heldValue_12 : decode cL_heldValue 12 = .ok (.ireturn, 1) := by decide +kernel
theorem dL_heldValue_13 : decode cL_heldValue 13 = .ok (.astore 4, 2) := by decide +kernel
theorem dL_heldValue_15 : decode cL_heldValue 15 = .ok (.ldc 15, 2) := by decide +kernel
theorem dL_heldValue_17 : decode cL_heldValue 17 = .ok (.ireturn, 1) := by decide +kernel
theorem dL_heldValue_18 : decode cL_heldValue 18 = .ok (.astore 4, 2) := by decide +kernel
theorem dL_heldValue_20 : decode cL_heldValue 20 = .ok (.ldc 18, 2) := by decide +kernel
theorem dL_heldValue_22 : decode cL_heldValue 22 = .ok (.ireturn, 1) := by decide +kernel
theorem dL_changes_0 : decode cL_changes 0 = .ok (.aload_n 0, 1) := by decide +kernel
theorem dL_changes_1 : decode cL_changes 1 = .ok (.iload_n 1, 1) := by decide +kernel
theorem dL_changes_2 : decode cL_changes 2 = .ok (.iload_n 2, 1) := by decide +kernel
theorem dL_changes_3 : decode cL_changes 3 = .ok (.iload_n 3, 1) := by decide +kernel
theorem dL_changes_4 : decode cL_changes 4 = .ok (.iload 4, 2) := by decide +kernel
theorem dL_changes_6 : decode cL_changes 6 = .ok (.invokevirtual 58, 3) := by decide +kernel
theorem dL_changes_9 : decode cL_changes 9 = .ok (.ireturn, 1) := by decide +kernel
theorem dL_changes_10 : decode cL_changes 10 = .ok (.astore 5, 2) := by decide +kernel
theorem dL_changes_12 : decode cL_changes 12 = .ok (.ldc 24, 2) := by decide +kernel
theorem dL_changes_14 : decode cL_changes 14 = .ok (.ireturn, 1) := by decide +kernel
theorem dL_changes_15 : decode cL_changes 15 = .ok (.astore 5, 2) := by decide +kernel
theorem dL_changes_17 : decode cL_changes 17 = .ok (.ldc 15, 2) := by decide +kernel
theorem dL_changes_19 : decode cL_changes 19 = .ok (.ireturn, 1) := by decide +kernel
theorem dL_changes_20 : decode cL_changes 20 = .ok (.astore 5, 2) := by decide +kernel
theorem dL_changes_22 : decode cL_changes 22 = .ok (.ldc 18, 2) := by decide +kernel
theorem dL_changes_24 : decode cL_changes 24 = .ok (.ireturn, 1) := by decide +kernel
theorem dL_makes_0 : decode cL_makes 0 = .ok (.aload_n 0, 1) := by decide +kernel
theorem dL_makes_1 : decode cL_makes 1 = .ok (.iload_n 1, 1) := by decide +kernel
theorem dL_makes_2 : decode cL_makes 2 = .ok (.iload_n 2, 1) := by decide +kernel
theorem dL_makes_3 : decode cL_makes 3 = .ok (.invokevirtual 62, 3) := by decide +kernel
theorem dL_makes_6 : decode cL_makes 6 = .ok (.ireturn, 1) := by decide +kernel
theorem dL_makes_7 : decode cL_makes 7 = .ok (.astore_n 3, 1) := by decide +kernel
theorem dL_makes_8 : decode cL_makes 8 = .ok (.ldc 24, 2) := by decide +kernel
theorem dL_makes_10 : decode cL_makes 10 = .ok (.ireturn, 1) := by decide +kernel
theorem dL_makes_11 : decode cL_makes 11 = .ok (.astore_n 3, 1) := by decide +kernel
theorem dL_makes_12 : decode cL_makes 12 = .ok (.ldc 15, 2) := by decide +kernel
theorem dL_makes_14 : decode cL_makes 14 = .ok (.ireturn, 1) := by decide +kernel
theorem dL_number_0 : decode cL_number 0 = .ok (.aload_n 0, 1) := by decide +kernel
theorem dL_number_1 : decode cL_number 1 = .ok (.iload_n 1, 1) := by decide +kernel
theorem dL_number_2 : decode cL_number 2 = .ok (.iload_n 2, 1) := by decide +kernel
theorem dL_number_3 : decode cL_number 3 = .ok (.invokevirtual 65, 3) := by decide +kernel
theorem dL_number_6 : decode cL_number 6 = .ok (.ireturn, 1) := by decide +kernel
theorem dL_number_7 : decode cL_number 7 = .ok (.astore_n 3, 1) := by decide +kernel
theorem dL_number_8 : decode cL_number 8 = .ok (.ldc 24, 2) := by decide +kernel
theorem dL_number_10 : decode cL_number 10 = .ok (.ireturn, 1) := by decide +kernel
theorem dL_number_11 : decode cL_number 11 = .ok (.astore_n 3, 1) := by decide +kernel
theorem dL_number_12 : decode cL_number 12 = .ok (.ldc 15, 2) := by decide +kernel
theorem dL_number_14 : decode cL_number 14 = .ok (.ireturn, 1) := by decide +kernel
theorem dL_sends_0 : decode cL_sends 0 = .ok (.aload_n 0, 1) := by decide +kernel
theorem dL_sends_1 : decode cL_sends 1 = .ok (.iload_n 1, 1) := by decide +kernel
theorem dL_sends_2 : decode cL_sends 2 = .ok (.iload_n 2, 1) := by decide +kernel
theorem dL_sends_3 : decode cL_sends 3 = .ok (.invokevirtual 68, 3) := by decide +kernel
theorem dL_sends_6 : decode cL_sends 6 = .ok (.ireturn, 1) := by decide +kernel
theorem dL_sends_7 : decode cL_sends 7 = .ok (.astore_n 3, 1) := by decide +kernel
theorem dL_sends_8 : decode cL_sends 8 = .ok (.ldc 24, 2) := by decide +kernel
theorem dL_sends_10 : decode cL_sends 10 = .ok (.ireturn, 1) := by decide +kernel
theorem dL_sends_11 : decode cL_sends 11 = .ok (.astore_n 3, 1) := by decide +kernel
theorem dL_sends_12 : decode cL_sends 12 = .ok (.ldc 15, 2) := by decide +kernel
theorem dL_sends_14 : decode cL_sends 14 = .ok (.ireturn, 1) := by decide +kernel
theorem dL_waiting_0 : decode cL_waiting 0 = .ok (.aload_n 0, 1) := by decide +kernel
theorem dL_waiting_1 : decode cL_waiting 1 = .ok (.iload_n 1, 1) := by decide +kernel
theorem dL_waiting_2 : decode cL_waiting 2 = .ok (.invokevirtual 71, 3) := by decide +kernel
theorem dL_waiting_5 : decode cL_waiting 5 = .ok (.ireturn, 1) := by decide +kernel
theorem dL_waiting_6 : decode cL_waiting 6 = .ok (.astore_n 2, 1) := by decide +kernel
theorem dL_waiting_7 : decode cL_waiting 7 = .ok (.ldc 24, 2) := by decide +kernel
theorem dL_waiting_9 : decode cL_waiting 9 = .ok (.ireturn, 1) := by decide +kernel
theorem dL_pile_0 : decode cL_pile 0 = .ok (.aload_n 0, 1) := by decide +kernel
theorem dL_pile_1 : decode cL_pile 1 = .ok (.iload_n 1, 1) := by decide +kernel
theorem dL_pile_2 : decode cL_pile 2 = .ok (.invokevirtual 74, 3) := by decide +kernel
theorem dL_pile_5 : decode cL_pile 5 = .ok (.ireturn, 1) := by decide +kernel
theorem dL_pile_6 : decode cL_pile 6 = .ok (.astore_n 2, 1) := by decide +kernel
theorem dL_pile_7 : decode cL_pile 7 = .ok (.ldc 24, 2) := by decide +kernel
theorem dL_pile_9 : decode cL_pile 9 = .ok (.ireturn, 1) := by decide +kernel
theorem dL_reason_0 : decode cL_reason 0 = .ok (.aload_n 0, 1) := by decide +kernel
theorem dL_reason_1 : decode cL_reason 1 = .ok (.iload_n 1, 1) := by decide +kernel
theorem dL_reason_2 : decode cL_reason 2 = .ok (.iload_n 2, 1) := by decide +kernel
theorem dL_reason_3 : decode cL_reason 3 = .ok (.invokevirtual 77, 3) := by decide +kernel
theorem dL_reason_6 : decode cL_reason 6 = .ok (.ireturn, 1) := by decide +kernel
theorem dL_reason_7 : decode cL_reason 7 = .ok (.astore_n 3, 1) := by decide +kernel
theorem dL_reason_8 : decode cL_reason 8 = .ok (.ldc 24, 2) := by decide +kernel
theorem dL_reason_10 : decode cL_reason 10 = .ok (.ireturn, 1) := by decide +kernel
theorem dL_refused_0 : decode cL_refused 0 = .ok (.aload_n 0, 1) := by decide +kernel
theorem dL_refused_1 : decode cL_refused 1 = .ok (.iload_n 1, 1) := by decide +kernel
theorem dL_refused_2 : decode cL_refused 2 = .ok (.iload_n 2, 1) := by decide +kernel
theorem dL_refused_3 : decode cL_refused 3 = .ok (.invokevirtual 80, 3) := by decide +kernel
theorem dL_refused_6 : decode cL_refused 6 = .ok (.ireturn, 1) := by decide +kernel
theorem dL_refused_7 : decode cL_refused 7 = .ok (.astore_n 3, 1) := by decide +kernel
theorem dL_refused_8 : decode cL_refused 8 = .ok (.ldc 24, 2) := by decide +kernel
theorem dL_refused_10 : decode cL_refused 10 = .ok (.ireturn, 1) := by decide +kernel
theorem dL_drawn_0 : decode cL_drawn 0 = .ok (.iload_n 1, 1) := by decide +kernel
theorem dL_drawn_1 : decode cL_drawn 1 = .ok (.aload_n 0, 1) := by decide +kernel
theorem dL_drawn_2 : decode cL_drawn 2 = .ok (.arraylength, 1) := by decide +kernel
theorem dL_drawn_3 : decode cL_drawn 3 = .ok (.if_icmp .ge 9, 3) := by decide +kernel
theorem dL_drawn_6 : decode cL_drawn 6 = .ok (.aload_n 0, 1) := by decide +kernel
theorem dL_drawn_7 : decode cL_drawn 7 = .ok (.iload_n 1, 1) := by decide +kernel
theorem dL_drawn_8 : decode cL_drawn 8 = .ok (.iaload, 1) := by decide +kernel
theorem dL_drawn_9 : decode cL_drawn 9 = .ok (.goto 13, 3) := by decide +kernel
theorem dL_drawn_12 : decode cL_drawn 12 = .ok (.ldc 83, 2) := by decide +kernel
theorem dL_drawn_14 : decode cL_drawn 14 = .ok (.iload_n 1, 1) := by decide +kernel
theorem dL_drawn_15 : decode cL_drawn 15 = .ok (.iconst 3, 1) := by decide +kernel
theorem dL_drawn_16 : decode cL_drawn 16 = .ok (.iadd, 1) := by decide +kernel
theorem dL_drawn_17 : decode cL_drawn 17 = .ok (.imul, 1) := by decide +kernel
theorem dL_drawn_18 : decode cL_drawn 18 = .ok (.sipush 13759, 3) := by decide +kernel
theorem dL_drawn_21 : decode cL_drawn 21 = .ok (.iadd, 1) := by decide +kernel
theorem dL_drawn_22 : decode cL_drawn 22 = .ok (.ldc 84, 2) := by decide +kernel
theorem dL_drawn_24 : decode cL_drawn 24 = .ok (.iand, 1) := by decide +kernel
theorem dL_drawn_25 : decode cL_drawn 25 = .ok (.ireturn, 1) := by decide +kernel
theorem dL_refuses_0 : decode cL_refuses 0 = .ok (.iload_n 2, 1) := by decide +kernel
theorem dL_refuses_1 : decode cL_refuses 1 = .ok (.iconst 2, 1) := by decide +kernel
theorem dL_refuses_2 : decode cL_refuses 2 = .ok (.irem, 1) := by decide +kernel
theorem dL_refuses_3 : decode cL_refuses 3 = .ok (.ifCond .ne 12, 3) := by decide +kernel
theorem dL_refuses_6 : decode cL_refuses 6 = .ok (.iconst (-1), 1) := by decide +kernel
theorem dL_refuses_7 : decode cL_refuses 7 = .ok (.iload_n 2, 1) := by decide +kernel
theorem dL_refuses_8 : decode cL_refuses 8 = .ok (.bipush 50, 2) := by decide +kernel
theorem dL_refuses_10 : decode cL_refuses 10 = .ok (.irem, 1) := by decide +kernel
theorem dL_refuses_11 : decode cL_refuses 11 = .ok (.isub, 1) := by decide +kernel
theorem dL_refuses_12 : decode cL_refuses 12 = .ok (.goto 12, 3) := by decide +kernel
theorem dL_refuses_15 : decode cL_refuses 15 = .ok (.aload_n 0, 1) := by decide +kernel
theorem dL_refuses_16 : decode cL_refuses 16 = .ok (.invokevirtual 85, 3) := by decide +kernel
theorem dL_refuses_19 : decode cL_refuses 19 = .ok (.iload_n 2, 1) := by decide +kernel
theorem dL_refuses_20 : decode cL_refuses 20 = .ok (.bipush 50, 2) := by decide +kernel
theorem dL_refuses_22 : decode cL_refuses 22 = .ok (.irem, 1) := by decide +kernel
theorem dL_refuses_23 : decode cL_refuses 23 = .ok (.iadd, 1) := by decide +kernel
theorem dL_refuses_24 : decode cL_refuses 24 = .ok (.istore_n 3, 1) := by decide +kernel
theorem dL_refuses_25 : decode cL_refuses 25 = .ok (.iload_n 2, 1) := by decide +kernel
theorem dL_refuses_26 : decode cL_refuses 26 = .ok (.iconst 2, 1) := by decide +kernel
theorem dL_refuses_27 : decode cL_refuses 27 = .ok (.irem, 1) := by decide +kernel
theorem dL_refuses_28 : decode cL_refuses 28 = .ok (.ifCond .ne 12, 3) := by decide +kernel
theorem dL_refuses_31 : decode cL_refuses 31 = .ok (.iconst (-1), 1) := by decide +kernel
theorem dL_refuses_32 : decode cL_refuses 32 = .ok (.iload_n 2, 1) := by decide +kernel
theorem dL_refuses_33 : decode cL_refuses 33 = .ok (.bipush 50, 2) := by decide +kernel
theorem dL_refuses_35 : decode cL_refuses 35 = .ok (.irem, 1) := by decide +kernel
theorem dL_refuses_36 : decode cL_refuses 36 = .ok (.isub, 1) := by decide +kernel
theorem dL_refuses_37 : decode cL_refuses 37 = .ok (.goto 9, 3) := by decide +kernel
theorem dL_refuses_40 : decode cL_refuses 40 = .ok (.iconst 4, 1) := by decide +kernel
theorem dL_refuses_41 : decode cL_refuses 41 = .ok (.iload_n 2, 1) := by decide +kernel
theorem dL_refuses_42 : decode cL_refuses 42 = .ok (.bipush 50, 2) := by decide +kernel
theorem dL_refuses_44 : decode cL_refuses 44 = .ok (.irem, 1) := by decide +kernel
theorem dL_refuses_45 : decode cL_refuses 45 = .ok (.iadd, 1) := by decide +kernel
theorem dL_refuses_46 : decode cL_refuses 46 = .ok (.istore 4, 2) := by decide +kernel
theorem dL_refuses_48 : decode cL_refuses 48 = .ok (.iload_n 2, 1) := by decide +kernel
theorem dL_refuses_49 : decode cL_refuses 49 = .ok (.iconst 4, 1) := by decide +kernel
theorem dL_refuses_50 : decode cL_refuses 50 = .ok (.irem, 1) := by decide +kernel
theorem dL_refuses_51 : decode cL_refuses 51 = .ok (.istore 5, 2) := by decide +kernel
theorem dL_refuses_53 : decode cL_refuses 53 = .ok (.aload_n 0, 1) := by decide +kernel
theorem dL_refuses_54 : decode cL_refuses 54 = .ok (.iload 4, 2) := by decide +kernel
theorem dL_refuses_56 : decode cL_refuses 56 = .ok (.iconst 0, 1) := by decide +kernel
theorem dL_refuses_57 : decode cL_refuses 57 = .ok (.invokestatic 89, 3) := by decide +kernel
theorem dL_refuses_60 : decode cL_refuses 60 = .ok (.ldc 15, 2) := by decide +kernel
theorem dL_refuses_62 : decode cL_refuses 62 = .ok (.if_icmp .ne 591, 3) := by decide +kernel
theorem dL_refuses_65 : decode cL_refuses 65 = .ok (.aload_n 0, 1) := by decide +kernel
theorem dL_refuses_66 : decode cL_refuses 66 = .ok (.iload 5, 2) := by decide +kernel
theorem dL_refuses_68 : decode cL_refuses 68 = .ok (.bipush 10, 2) := by decide +kernel
theorem dL_refuses_70 : decode cL_refuses 70 = .ok (.iload_n 2, 1) := by decide +kernel
theorem dL_refuses_71 : decode cL_refuses 71 = .ok (.iadd, 1) := by decide +kernel
theorem dL_refuses_72 : decode cL_refuses 72 = .ok (.invokestatic 89, 3) := by decide +kernel
theorem dL_refuses_75 : decode cL_refuses 75 = .ok (.ldc 15, 2) := by decide +kernel
theorem dL_refuses_77 : decode cL_refuses 77 = .ok (.if_icmp .ne 576, 3) := by decide +kernel
theorem dL_refuses_80 : decode cL_refuses 80 = .ok (.aload_n 0, 1) := by decide +kernel
theorem dL_refuses_81 : decode cL_refuses 81 = .ok (.iload 5, 2) := by decide +kernel
theorem dL_refuses_83 : decode cL_refuses 83 = .ok (.iconst (-1), 1) := by decide +kernel
theorem dL_refuses_84 : decode cL_refuses 84 = .ok (.iload_n 2, 1) := by decide +kernel
theorem dL_refuses_85 : decode cL_refuses 85 = .ok (.isub, 1) := by decide +kernel
theorem dL_refuses_86 : decode cL_refuses 86 = .ok (.invokestatic 89, 3) := by decide +kernel
theorem dL_refuses_89 : decode cL_refuses 89 = .ok (.ldc 15, 2) := by decide +kernel
theorem dL_refuses_91 : decode cL_refuses 91 = .ok (.if_icmp .ne 562, 3) := by decide +kernel
theorem dL_refuses_94 : decode cL_refuses 94 = .ok (.aload_n 0, 1) := by decide +kernel
theorem dL_refuses_95 : decode cL_refuses 95 = .ok (.iload_n 3, 1) := by decide +kernel
theorem dL_refuses_96 : decode cL_refuses 96 = .ok (.bipush 9, 2) := by decide +kernel
theorem dL_refuses_98 : decode cL_refuses 98 = .ok (.invokestatic 95, 3) := by decide +kernel
theorem dL_refuses_101 : decode cL_refuses 101 = .ok (.ldc 24, 2) := by decide +kernel
theorem dL_refuses_103 : decode cL_refuses 103 = .ok (.if_icmp .ne 550, 3) := by decide +kernel
theorem dL_refuses_106 : decode cL_refuses 106 = .ok (.aload_n 0, 1) := by decide +kernel
theorem dL_refuses_107 : decode cL_refuses 107 = .ok (.iload_n 3, 1) := by decide +kernel
theorem dL_refuses_108 : decode cL_refuses 108 = .ok (.bipush 9, 2) := by decide +kernel
theorem dL_refuses_110 : decode cL_refuses 110 = .ok (.bipush 9, 2) := by decide +kernel
theorem dL_refuses_112 : decode cL_refuses 112 = .ok (.invokestatic 98, 3) := by decide +kernel
theorem dL_refuses_115 : decode cL_refuses 115 = .ok (.ldc 24, 2) := by decide +kernel
theorem dL_refuses_117 : decode cL_refuses 117 = .ok (.if_icmp .ne 536, 3) := by decide +kernel
theorem dL_refuses_120 : decode cL_refuses 120 = .ok (.aload_n 0, 1) := by decide +kernel
theorem dL_refuses_121 : decode cL_refuses 121 = .ok (.iload_n 3, 1) := by decide +kernel
theorem dL_refuses_122 : decode cL_refuses 122 = .ok (.invokestatic 102, 3) := by decide +kernel
theorem dL_refuses_125 : decode cL_refuses 125 = .ok (.ldc 24, 2) := by decide +kernel
theorem dL_refuses_127 : decode cL_refuses 127 = .ok (.if_icmp .ne 526, 3) := by decide +kernel
theorem dL_refuses_130 : decode cL_refuses 130 = .ok (.aload_n 0, 1) := by decide +kernel
theorem dL_refuses_131 : decode cL_refuses 131 = .ok (.iload_n 3, 1) := by decide +kernel
theorem dL_refuses_132 : decode cL_refuses 132 = .ok (.invokestatic 105, 3) := by decide +kernel
theorem dL_refuses_135 : decode cL_refuses 135 = .ok (.ldc 24, 2) := by decide +kernel
theorem dL_refuses_137 : decode cL_refuses 137 = .ok (.if_icmp .ne 516, 3) := by decide +kernel
theorem dL_refuses_140 : decode cL_refuses 140 = .ok (.aload_n 0, 1) := by decide +kernel
theorem dL_refuses_141 : decode cL_refuses 141 = .ok (.iload_n 3, 1) := by decide +kernel
theorem dL_refuses_142 : decode cL_refuses 142 = .ok (.bipush 9, 2) := by decide +kernel
theorem dL_refuses_144 : decode cL_refuses 144 = .ok (.invokestatic 107, 3) := by decide +kernel
theorem dL_refuses_147 : decode cL_refuses 147 = .ok (.ldc 24, 2) := by decide +kernel
theorem dL_refuses_149 : decode cL_refuses 149 = .ok (.if_icmp .ne 504, 3) := by decide +kernel
theorem dL_refuses_152 : decode cL_refuses 152 = .ok (.aload_n 0, 1) := by decide +kernel
theorem dL_refuses_153 : decode cL_refuses 153 = .ok (.iload_n 3, 1) := by decide +kernel
theorem dL_refuses_154 : decode cL_refuses 154 = .ok (.iconst 0, 1) := by decide +kernel
theorem dL_refuses_155 : decode cL_refuses 155 = .ok (.invokestatic 109, 3) := by decide +kernel
theorem dL_refuses_158 : decode cL_refuses 158 = .ok (.ldc 24, 2) := by decide +kernel
theorem dL_refuses_160 : decode cL_refuses 160 = .ok (.if_icmp .ne 493, 3) := by decide +kernel
theorem dL_refuses_163 : decode cL_refuses 163 = .ok (.aload_n 0, 1) := by decide +kernel
theorem dL_refuses_164 : decode cL_refuses 164 = .ok (.iload 4, 2) := by decide +kernel
theorem dL_refuses_166 : decode cL_refuses 166 = .ok (.bipush 99, 2) := by decide +kernel
theorem dL_refuses_168 : decode cL_refuses 168 = .ok (.invokestatic 111, 3) := by decide +kernel
theorem dL_refuses_171 : decode cL_refuses 171 = .ok (.ldc 24, 2) := by decide +kernel
theorem dL_refuses_173 : decode cL_refuses 173 = .ok (.if_icmp .ne 480, 3) := by decide +kernel
theorem dL_refuses_176 : decode cL_refuses 176 = .ok (.aload_n 0, 1) := by decide +kernel
theorem dL_refuses_177 : decode cL_refuses 177 = .ok (.iload 5, 2) := by decide +kernel
theorem dL_refuses_179 : decode cL_refuses 179 = .ok (.bipush 41, 2) := by decide +kernel
theorem dL_refuses_181 : decode cL_refuses 181 = .ok (.iload_n 2, 1) := by decide +kernel
theorem dL_refuses_182 : decode cL_refuses 182 = .ok (.iadd, 1) := by decide +kernel
theorem dL_refuses_183 : decode cL_refuses 183 = .ok (.invokestatic 111, 3) := by decide +kernel
theorem dL_refuses_186 : decode cL_refuses 186 = .ok (.ldc 15, 2) := by decide +kernel
theorem dL_refuses_188 : decode cL_refuses 188 = .ok (.if_icmp .ne 465, 3) := by decide +kernel
theorem dL_refuses_191 : decode cL_refuses 191 = .ok (.aload_n 0, 1) := by decide +kernel
theorem dL_refuses_192 : decode cL_refuses 192 = .ok (.iload 5, 2) := by decide +kernel
theorem dL_refuses_194 : decode cL_refuses 194 = .ok (.iconst (-1), 1) := by decide +kernel
theorem dL_refuses_195 : decode cL_refuses 195 = .ok (.iload_n 2, 1) := by decide +kernel
theorem dL_refuses_196 : decode cL_refuses 196 = .ok (.isub, 1) := by decide +kernel
theorem dL_refuses_197 : decode cL_refuses 197 = .ok (.invokestatic 111, 3) := by decide +kernel
theorem dL_refuses_200 : decode cL_refuses 200 = .ok (.ldc 15, 2) := by decide +kernel
theorem dL_refuses_202 : decode cL_refuses 202 = .ok (.if_icmp .ne 451, 3) := by decide +kernel
theorem dL_refuses_205 : decode cL_refuses 205 = .ok (.aload_n 0, 1) := by decide +kernel
theorem dL_refuses_206 : decode cL_refuses 206 = .ok (.iload 4, 2) := by decide +kernel
theorem dL_refuses_208 : decode cL_refuses 208 = .ok (.invokestatic 114, 3) := by decide +kernel
theorem dL_refuses_211 : decode cL_refuses 211 = .ok (.ldc 24, 2) := by decide +kernel
theorem dL_refuses_213 : decode cL_refuses 213 = .ok (.if_icmp .ne 440, 3) := by decide +kernel
theorem dL_refuses_216 : decode cL_refuses 216 = .ok (.aload_n 0, 1) := by decide +kernel
theorem dL_refuses_217 : decode cL_refuses 217 = .ok (.iload 4, 2) := by decide +kernel
theorem dL_refuses_219 : decode cL_refuses 219 = .ok (.invokestatic 117, 3) := by decide +kernel
theorem dL_refuses_222 : decode cL_refuses 222 = .ok (.ldc 24, 2) := by decide +kernel
theorem dL_refuses_224 : decode cL_refuses 224 = .ok (.if_icmp .ne 429, 3) := by decide +kernel
theorem dL_refuses_227 : decode cL_refuses 227 = .ok (.aload_n 0, 1) := by decide +kernel
theorem dL_refuses_228 : decode cL_refuses 228 = .ok (.iload 4, 2) := by decide +kernel
theorem dL_refuses_230 : decode cL_refuses 230 = .ok (.iconst 0, 1) := by decide +kernel
theorem dL_refuses_231 : decode cL_refuses 231 = .ok (.invokestatic 119, 3) := by decide +kernel
theorem dL_refuses_234 : decode cL_refuses 234 = .ok (.ldc 24, 2) := by decide +kernel
theorem dL_refuses_236 : decode cL_refuses 236 = .ok (.if_icmp .ne 417, 3) := by decide +kernel
theorem dL_refuses_239 : decode cL_refuses 239 = .ok (.aload_n 0, 1) := by decide +kernel
theorem dL_refuses_240 : decode cL_refuses 240 = .ok (.iload 4, 2) := by decide +kernel
theorem dL_refuses_242 : decode cL_refuses 242 = .ok (.iconst 0, 1) := by decide +kernel
theorem dL_refuses_243 : decode cL_refuses 243 = .ok (.bipush 9, 2) := by decide +kernel
theorem dL_refuses_245 : decode cL_refuses 245 = .ok (.invokestatic 121, 3) := by decide +kernel
theorem dL_refuses_248 : decode cL_refuses 248 = .ok (.ldc 24, 2) := by decide +kernel
theorem dL_refuses_250 : decode cL_refuses 250 = .ok (.if_icmp .ne 403, 3) := by decide +kernel
theorem dL_refuses_253 : decode cL_refuses 253 = .ok (.aload_n 0, 1) := by decide +kernel
theorem dL_refuses_254 : decode cL_refuses 254 = .ok (.iload 5, 2) := by decide +kernel
theorem dL_refuses_256 : decode cL_refuses 256 = .ok (.iconst 0, 1) := by decide +kernel
theorem dL_refuses_257 : decode cL_refuses 257 = .ok (.iconst 2, 1) := by decide +kernel
theorem dL_refuses_258 : decode cL_refuses 258 = .ok (.iload_n 2, 1) := by decide +kernel
theorem dL_refuses_259 : decode cL_refuses 259 = .ok (.iadd, 1) := by decide +kernel
theorem dL_refuses_260 : decode cL_refuses 260 = .ok (.invokestatic 121, 3) := by decide +kernel
theorem dL_refuses_263 : decode cL_refuses 263 = .ok (.ldc 15, 2) := by decide +kernel
theorem dL_refuses_265 : decode cL_refuses 265 = .ok (.if_icmp .ne 388, 3) := by decide +kernel
theorem dL_refuses_268 : decode cL_refuses 268 = .ok (.aload_n 0, 1) := by decide +kernel
theorem dL_refuses_269 : decode cL_refuses 269 = .ok (.iload 5, 2) := by decide +kernel
theorem dL_refuses_271 : decode cL_refuses 271 = .ok (.iload_n 3, 1) := by decide +kernel
theorem dL_refuses_272 : decode cL_refuses 272 = .ok (.iconst 0, 1) := by decide +kernel
theorem dL_refuses_273 : decode cL_refuses 273 = .ok (.invokestatic 121, 3) := by decide +kernel
theorem dL_refuses_276 : decode cL_refuses 276 = .ok (.ldc 18, 2) := by decide +kernel
theorem dL_refuses_278 : decode cL_refuses 278 = .ok (.if_icmp .ne 375, 3) := by decide +kernel
theorem dL_refuses_281 : decode cL_refuses 281 = .ok (.aload_n 0, 1) := by decide +kernel
theorem dL_refuses_282 : decode cL_refuses 282 = .ok (.iload 5, 2) := by decide +kernel
theorem dL_refuses_284 : decode cL_refuses 284 = .ok (.sipush 1000, 3) := by decide +kernel
theorem dL_refuses_287 : decode cL_refuses 287 = .ok (.aload_n 1, 1) := by decide +kernel
theorem dL_refuses_288 : decode cL_refuses 288 = .ok (.iload 5, 2) := by decide +kernel
theorem dL_refuses_290 : decode cL_refuses 290 = .ok (.iaload, 1) := by decide +kernel
theorem dL_refuses_291 : decode cL_refuses 291 = .ok (.iadd, 1) := by decide +kernel
theorem dL_refuses_292 : decode cL_refuses 292 = .ok (.iconst 1, 1) := by decide +kernel
theorem dL_refuses_293 : decode cL_refuses 293 = .ok (.invokestatic 121, 3) := by decide +kernel
theorem dL_refuses_296 : decode cL_refuses 296 = .ok (.ldc 18, 2) := by decide +kernel
theorem dL_refuses_298 : decode cL_refuses 298 = .ok (.if_icmp .ne 355, 3) := by decide +kernel
theorem dL_refuses_301 : decode cL_refuses 301 = .ok (.aload_n 0, 1) := by decide +kernel
theorem dL_refuses_302 : decode cL_refuses 302 = .ok (.iload 4, 2) := by decide +kernel
theorem dL_refuses_304 : decode cL_refuses 304 = .ok (.iconst 0, 1) := by decide +kernel
theorem dL_refuses_305 : decode cL_refuses 305 = .ok (.bipush 9, 2) := by decide +kernel
theorem dL_refuses_307 : decode cL_refuses 307 = .ok (.bipush 9, 2) := by decide +kernel
theorem dL_refuses_309 : decode cL_refuses 309 = .ok (.invokestatic 123, 3) := by decide +kernel
theorem dL_refuses_312 : decode cL_refuses 312 = .ok (.ldc 24, 2) := by decide +kernel
theorem dL_refuses_314 : decode cL_refuses 314 = .ok (.if_icmp .ne 339, 3) := by decide +kernel
theorem dL_refuses_317 : decode cL_refuses 317 = .ok (.aload_n 0, 1) := by decide +kernel
theorem dL_refuses_318 : decode cL_refuses 318 = .ok (.iload 5, 2) := by decide +kernel
theorem dL_refuses_320 : decode cL_refuses 320 = .ok (.iconst 0, 1) := by decide +kernel
theorem dL_refuses_321 : decode cL_refuses 321 = .ok (.iconst 2, 1) := by decide +kernel
theorem dL_refuses_322 : decode cL_refuses 322 = .ok (.iload_n 2, 1) := by decide +kernel
theorem dL_refuses_323 : decode cL_refuses 323 = .ok (.iadd, 1) := by decide +kernel
theorem dL_refuses_324 : decode cL_refuses 324 = .ok (.iconst 0, 1) := by decide +kernel
theorem dL_refuses_325 : decode cL_refuses 325 = .ok (.invokestatic 123, 3) := by decide +kernel
theorem dL_refuses_328 : decode cL_refuses 328 = .ok (.ldc 15, 2) := by decide +kernel
theorem dL_refuses_330 : decode cL_refuses 330 = .ok (.if_icmp .ne 323, 3) := by decide +kernel
theorem dL_refuses_333 : decode cL_refuses 333 = .ok (.aload_n 0, 1) := by decide +kernel
theorem dL_refuses_334 : decode cL_refuses 334 = .ok (.iload 5, 2) := by decide +kernel
theorem dL_refuses_336 : decode cL_refuses 336 = .ok (.iconst 0, 1) := by decide +kernel
theorem dL_refuses_337 : decode cL_refuses 337 = .ok (.iconst 0, 1) := by decide +kernel
theorem dL_refuses_338 : decode cL_refuses 338 = .ok (.iconst 3, 1) := by decide +kernel
theorem dL_refuses_339 : decode cL_refuses 339 = .ok (.iload_n 2, 1) := by decide +kernel
theorem dL_refuses_340 : decode cL_refuses 340 = .ok (.iadd, 1) := by decide +kernel
theorem dL_refuses_341 : decode cL_refuses 341 = .ok (.invokestatic 123, 3) := by decide +kernel
theorem dL_refuses_344 : decode cL_refuses 344 = .ok (.ldc 15, 2) := by decide +kernel
theorem dL_refuses_346 : decode cL_refuses 346 = .ok (.if_icmp .ne 307, 3) := by decide +kernel
theorem dL_refuses_349 : decode cL_refuses 349 = .ok (.aload_n 0, 1) := by decide +kernel
theorem dL_refuses_350 : decode cL_refuses 350 = .ok (.iload 5, 2) := by decide +kernel
theorem dL_refuses_352 : decode cL_refuses 352 = .ok (.iconst 0, 1) := by decide +kernel
theorem dL_refuses_353 : decode cL_refuses 353 = .ok (.iconst 1, 1) := by decide +kernel
theorem dL_refuses_354 : decode cL_refuses 354 = .ok (.sipush 10001, 3) := by decide +kernel
theorem dL_refuses_357 : decode cL_refuses 357 = .ok (.iload_n 2, 1) := by decide +kernel
theorem dL_refuses_358 : decode cL_refuses 358 = .ok (.iadd, 1) := by decide +kernel
theorem dL_refuses_359 : decode cL_refuses 359 = .ok (.invokestatic 123, 3) := by decide +kernel
theorem dL_refuses_362 : decode cL_refuses 362 = .ok (.ldc 15, 2) := by decide +kernel
theorem dL_refuses_364 : decode cL_refuses 364 = .ok (.if_icmp .ne 289, 3) := by decide +kernel
theorem dL_refuses_367 : decode cL_refuses 367 = .ok (.aload_n 0, 1) := by decide +kernel
theorem dL_refuses_368 : decode cL_refuses 368 = .ok (.iload 5, 2) := by decide +kernel
theorem dL_refuses_370 : decode cL_refuses 370 = .ok (.iconst 0, 1) := by decide +kernel
theorem dL_refuses_371 : decode cL_refuses 371 = .ok (.iconst 1, 1) := by decide +kernel
theorem dL_refuses_372 : decode cL_refuses 372 = .ok (.iconst (-1), 1) := by decide +kernel
theorem dL_refuses_373 : decode cL_refuses 373 = .ok (.iload_n 2, 1) := by decide +kernel
theorem dL_refuses_374 : decode cL_refuses 374 = .ok (.isub, 1) := by decide +kernel
theorem dL_refuses_375 : decode cL_refuses 375 = .ok (.invokestatic 123, 3) := by decide +kernel
theorem dL_refuses_378 : decode cL_refuses 378 = .ok (.ldc 15, 2) := by decide +kernel
theorem dL_refuses_380 : decode cL_refuses 380 = .ok (.if_icmp .ne 273, 3) := by decide +kernel
theorem dL_refuses_383 : decode cL_refuses 383 = .ok (.aload_n 0, 1) := by decide +kernel
theorem dL_refuses_384 : decode cL_refuses 384 = .ok (.iload 5, 2) := by decide +kernel
theorem dL_refuses_386 : decode cL_refuses 386 = .ok (.iload_n 3, 1) := by decide +kernel
theorem dL_refuses_387 : decode cL_refuses 387 = .ok (.iconst 0, 1) := by decide +kernel
theorem dL_refuses_388 : decode cL_refuses 388 = .ok (.iconst 1, 1) := by decide +kernel
theorem dL_refuses_389 : decode cL_refuses 389 = .ok (.invokestatic 123, 3) := by decide +kernel
theorem dL_refuses_392 : decode cL_refuses 392 = .ok (.ldc 18, 2) := by decide +kernel
theorem dL_refuses_394 : decode cL_refuses 394 = .ok (.if_icmp .ne 259, 3) := by decide +kernel
theorem dL_refuses_397 : decode cL_refuses 397 = .ok (.aload_n 0, 1) := by decide +kernel
theorem dL_refuses_398 : decode cL_refuses 398 = .ok (.iload 5, 2) := by decide +kernel
theorem dL_refuses_400 : decode cL_refuses 400 = .ok (.sipush 1000, 3) := by decide +kernel
theorem dL_refuses_403 : decode cL_refuses 403 = .ok (.aload_n 1, 1) := by decide +kernel
theorem dL_refuses_404 : decode cL_refuses 404 = .ok (.iload 5, 2) := by decide +kernel
theorem dL_refuses_406 : decode cL_refuses 406 = .ok (.iaload, 1) := by decide +kernel
theorem dL_refuses_407 : decode cL_refuses 407 = .ok (.iadd, 1) := by decide +kernel
theorem dL_refuses_408 : decode cL_refuses 408 = .ok (.iload_n 2, 1) := by decide +kernel
theorem dL_refuses_409 : decode cL_refuses 409 = .ok (.iadd, 1) := by decide +kernel
theorem dL_refuses_410 : decode cL_refuses 410 = .ok (.iconst 0, 1) := by decide +kernel
theorem dL_refuses_411 : decode cL_refuses 411 = .ok (.iconst 1, 1) := by decide +kernel
theorem dL_refuses_412 : decode cL_refuses 412 = .ok (.invokestatic 123, 3) := by decide +kernel
theorem dL_refuses_415 : decode cL_refuses 415 = .ok (.ldc 18, 2) := by decide +kernel
theorem dL_refuses_417 : decode cL_refuses 417 = .ok (.if_icmp .ne 236, 3) := by decide +kernel
theorem dL_refuses_420 : decode cL_refuses 420 = .ok (.aload_n 0, 1) := by decide +kernel
theorem dL_refuses_421 : decode cL_refuses 421 = .ok (.iload 4, 2) := by decide +kernel
theorem dL_refuses_423 : decode cL_refuses 423 = .ok (.bipush 99, 2) := by decide +kernel
theorem dL_refuses_425 : decode cL_refuses 425 = .ok (.invokestatic 127, 3) := by decide +kernel
theorem dL_refuses_428 : decode cL_refuses 428 = .ok (.ldc 24, 2) := by decide +kernel
theorem dL_refuses_430 : decode cL_refuses 430 = .ok (.if_icmp .ne 223, 3) := by decide +kernel
theorem dL_refuses_433 : decode cL_refuses 433 = .ok (.aload_n 0, 1) := by decide +kernel
theorem dL_refuses_434 : decode cL_refuses 434 = .ok (.iload 5, 2) := by decide +kernel
theorem dL_refuses_436 : decode cL_refuses 436 = .ok (.bipush 10, 2) := by decide +kernel
theorem dL_refuses_438 : decode cL_refuses 438 = .ok (.iload_n 2, 1) := by decide +kernel
theorem dL_refuses_439 : decode cL_refuses 439 = .ok (.iadd, 1) := by decide +kernel
theorem dL_refuses_440 : decode cL_refuses 440 = .ok (.invokestatic 127, 3) := by decide +kernel
theorem dL_refuses_443 : decode cL_refuses 443 = .ok (.ldc 15, 2) := by decide +kernel
theorem dL_refuses_445 : decode cL_refuses 445 = .ok (.if_icmp .ne 208, 3) := by decide +kernel
theorem dL_refuses_448 : decode cL_refuses 448 = .ok (.aload_n 0, 1) := by decide +kernel
theorem dL_refuses_449 : decode cL_refuses 449 = .ok (.iload 4, 2) := by decide +kernel
theorem dL_refuses_451 : decode cL_refuses 451 = .ok (.sipush 1000, 3) := by decide +kernel
theorem dL_refuses_454 : decode cL_refuses 454 = .ok (.invokestatic 130, 3) := by decide +kernel
theorem dL_refuses_457 : decode cL_refuses 457 = .ok (.ldc 24, 2) := by decide +kernel
theorem dL_refuses_459 : decode cL_refuses 459 = .ok (.if_icmp .ne 194, 3) := by decide +kernel
theorem dL_refuses_462 : decode cL_refuses 462 = .ok (.aload_n 0, 1) := by decide +kernel
theorem dL_refuses_463 : decode cL_refuses 463 = .ok (.iload 5, 2) := by decide +kernel
theorem dL_refuses_465 : decode cL_refuses 465 = .ok (.sipush 1000, 3) := by decide +kernel
theorem dL_refuses_468 : decode cL_refuses 468 = .ok (.aload_n 1, 1) := by decide +kernel
theorem dL_refuses_469 : decode cL_refuses 469 = .ok (.iload 5, 2) := by decide +kernel
theorem dL_refuses_471 : decode cL_refuses 471 = .ok (.iaload, 1) := by decide +kernel
theorem dL_refuses_472 : decode cL_refuses 472 = .ok (.iadd, 1) := by decide +kernel
theorem dL_refuses_473 : decode cL_refuses 473 = .ok (.iload_n 2, 1) := by decide +kernel
theorem dL_refuses_474 : decode cL_refuses 474 = .ok (.iadd, 1) := by decide +kernel
theorem dL_refuses_475 : decode cL_refuses 475 = .ok (.invokestatic 130, 3) := by decide +kernel
theorem dL_refuses_478 : decode cL_refuses 478 = .ok (.ldc 15, 2) := by decide +kernel
theorem dL_refuses_480 : decode cL_refuses 480 = .ok (.if_icmp .ne 173, 3) := by decide +kernel
theorem dL_refuses_483 : decode cL_refuses 483 = .ok (.aload_n 0, 1) := by decide +kernel
theorem dL_refuses_484 : decode cL_refuses 484 = .ok (.iload 5, 2) := by decide +kernel
theorem dL_refuses_486 : decode cL_refuses 486 = .ok (.sipush 999, 3) := by decide +kernel
theorem dL_refuses_489 : decode cL_refuses 489 = .ok (.iload_n 2, 1) := by decide +kernel
theorem dL_refuses_490 : decode cL_refuses 490 = .ok (.isub, 1) := by decide +kernel
theorem dL_refuses_491 : decode cL_refuses 491 = .ok (.invokestatic 130, 3) := by decide +kernel
theorem dL_refuses_494 : decode cL_refuses 494 = .ok (.ldc 15, 2) := by decide +kernel
theorem dL_refuses_496 : decode cL_refuses 496 = .ok (.if_icmp .ne 157, 3) := by decide +kernel
theorem dL_refuses_499 : decode cL_refuses 499 = .ok (.aload_n 0, 1) := by decide +kernel
theorem dL_refuses_500 : decode cL_refuses 500 = .ok (.iload 4, 2) := by decide +kernel
theorem dL_refuses_502 : decode cL_refuses 502 = .ok (.iconst 0, 1) := by decide +kernel
theorem dL_refuses_503 : decode cL_refuses 503 = .ok (.invokestatic 133, 3) := by decide +kernel
theorem dL_refuses_506 : decode cL_refuses 506 = .ok (.ldc 24, 2) := by decide +kernel
theorem dL_refuses_508 : decode cL_refuses 508 = .ok (.if_icmp .ne 145, 3) := by decide +kernel
theorem dL_refuses_511 : decode cL_refuses 511 = .ok (.aload_n 0, 1) := by decide +kernel
theorem dL_refuses_512 : decode cL_refuses 512 = .ok (.iload 5, 2) := by decide +kernel
theorem dL_refuses_514 : decode cL_refuses 514 = .ok (.iconst 0, 1) := by decide +kernel
theorem dL_refuses_515 : decode cL_refuses 515 = .ok (.invokestatic 133, 3) := by decide +kernel
theorem dL_refuses_518 : decode cL_refuses 518 = .ok (.ldc 15, 2) := by decide +kernel
theorem dL_refuses_520 : decode cL_refuses 520 = .ok (.if_icmp .ne 133, 3) := by decide +kernel
theorem dL_refuses_523 : decode cL_refuses 523 = .ok (.aload_n 0, 1) := by decide +kernel
theorem dL_refuses_524 : decode cL_refuses 524 = .ok (.iload 5, 2) := by decide +kernel
theorem dL_refuses_526 : decode cL_refuses 526 = .ok (.bipush 101, 2) := by decide +kernel
theorem dL_refuses_528 : decode cL_refuses 528 = .ok (.iload_n 2, 1) := by decide +kernel
theorem dL_refuses_529 : decode cL_refuses 529 = .ok (.iadd, 1) := by decide +kernel
theorem dL_refuses_530 : decode cL_refuses 530 = .ok (.invokestatic 133, 3) := by decide +kernel
theorem dL_refuses_533 : decode cL_refuses 533 = .ok (.ldc 15, 2) := by decide +kernel
theorem dL_refuses_535 : decode cL_refuses 535 = .ok (.if_icmp .ne 118, 3) := by decide +kernel
theorem dL_refuses_538 : decode cL_refuses 538 = .ok (.aload_n 0, 1) := by decide +kernel
theorem dL_refuses_539 : decode cL_refuses 539 = .ok (.iload 4, 2) := by decide +kernel
theorem dL_refuses_541 : decode cL_refuses 541 = .ok (.invokestatic 136, 3) := by decide +kernel
theorem dL_refuses_544 : decode cL_refuses 544 = .ok (.ldc 24, 2) := by decide +kernel
theorem dL_refuses_546 : decode cL_refuses 546 = .ok (.if_icmp .ne 107, 3) := by decide +kernel
theorem dL_refuses_549 : decode cL_refuses 549 = .ok (.aload_n 0, 1) := by decide +kernel
theorem dL_refuses_550 : decode cL_refuses 550 = .ok (.iload 4, 2) := by decide +kernel
theorem dL_refuses_552 : decode cL_refuses 552 = .ok (.invokestatic 138, 3) := by decide +kernel
theorem dL_refuses_555 : decode cL_refuses 555 = .ok (.ldc 24, 2) := by decide +kernel
theorem dL_refuses_557 : decode cL_refuses 557 = .ok (.if_icmp .ne 96, 3) := by decide +kernel
theorem dL_refuses_560 : decode cL_refuses 560 = .ok (.aload_n 0, 1) := by decide +kernel
theorem dL_refuses_561 : decode cL_refuses 561 = .ok (.iload 4, 2) := by decide +kernel
theorem dL_refuses_563 : decode cL_refuses 563 = .ok (.iconst 0, 1) := by decide +kernel
theorem dL_refuses_564 : decode cL_refuses 564 = .ok (.invokestatic 140, 3) := by decide +kernel
theorem dL_refuses_567 : decode cL_refuses 567 = .ok (.ldc 24, 2) := by decide +kernel
theorem dL_refuses_569 : decode cL_refuses 569 = .ok (.if_icmp .ne 84, 3) := by decide +kernel
theorem dL_refuses_572 : decode cL_refuses 572 = .ok (.aload_n 0, 1) := by decide +kernel
theorem dL_refuses_573 : decode cL_refuses 573 = .ok (.iload 5, 2) := by decide +kernel
theorem dL_refuses_575 : decode cL_refuses 575 = .ok (.iconst (-1), 1) := by decide +kernel
theorem dL_refuses_576 : decode cL_refuses 576 = .ok (.iload_n 2, 1) := by decide +kernel
theorem dL_refuses_577 : decode cL_refuses 577 = .ok (.isub, 1) := by decide +kernel
theorem dL_refuses_578 : decode cL_refuses 578 = .ok (.invokestatic 140, 3) := by decide +kernel
theorem dL_refuses_581 : decode cL_refuses 581 = .ok (.ldc 24, 2) := by decide +kernel
theorem dL_refuses_583 : decode cL_refuses 583 = .ok (.if_icmp .ne 70, 3) := by decide +kernel
theorem dL_refuses_586 : decode cL_refuses 586 = .ok (.aload_n 0, 1) := by decide +kernel
theorem dL_refuses_587 : decode cL_refuses 587 = .ok (.iload 5, 2) := by decide +kernel
theorem dL_refuses_589 : decode cL_refuses 589 = .ok (.aload_n 0, 1) := by decide +kernel
theorem dL_refuses_590 : decode cL_refuses 590 = .ok (.iload 5, 2) := by decide +kernel
theorem dL_refuses_592 : decode cL_refuses 592 = .ok (.invokestatic 138, 3) := by decide +kernel
theorem dL_refuses_595 : decode cL_refuses 595 = .ok (.iload_n 2, 1) := by decide +kernel
theorem dL_refuses_596 : decode cL_refuses 596 = .ok (.iadd, 1) := by decide +kernel
theorem dL_refuses_597 : decode cL_refuses 597 = .ok (.invokestatic 140, 3) := by decide +kernel
theorem dL_refuses_600 : decode cL_refuses 600 = .ok (.ldc 24, 2) := by decide +kernel
theorem dL_refuses_602 : decode cL_refuses 602 = .ok (.if_icmp .ne 51, 3) := by decide +kernel
theorem dL_refuses_605 : decode cL_refuses 605 = .ok (.aload_n 0, 1) := by decide +kernel
theorem dL_refuses_606 : decode cL_refuses 606 = .ok (.iload 5, 2) := by decide +kernel
theorem dL_refuses_608 : decode cL_refuses 608 = .ok (.aload_n 0, 1) := by decide +kernel
theorem dL_refuses_609 : decode cL_refuses 609 = .ok (.iload 5, 2) := by decide +kernel
theorem dL_refuses_611 : decode cL_refuses 611 = .ok (.invokestatic 138, 3) := by decide +kernel
theorem dL_refuses_614 : decode cL_refuses 614 = .ok (.invokestatic 142, 3) := by decide +kernel
theorem dL_refuses_617 : decode cL_refuses 617 = .ok (.ldc 24, 2) := by decide +kernel
theorem dL_refuses_619 : decode cL_refuses 619 = .ok (.if_icmp .ne 34, 3) := by decide +kernel
theorem dL_refuses_622 : decode cL_refuses 622 = .ok (.aload_n 0, 1) := by decide +kernel
theorem dL_refuses_623 : decode cL_refuses 623 = .ok (.iload 5, 2) := by decide +kernel
theorem dL_refuses_625 : decode cL_refuses 625 = .ok (.iload_n 3, 1) := by decide +kernel
theorem dL_refuses_626 : decode cL_refuses 626 = .ok (.invokestatic 119, 3) := by decide +kernel
theorem dL_refuses_629 : decode cL_refuses 629 = .ok (.ifCond .ne 24, 3) := by decide +kernel
theorem dL_refuses_632 : decode cL_refuses 632 = .ok (.aload_n 0, 1) := by decide +kernel
theorem dL_refuses_633 : decode cL_refuses 633 = .ok (.iload 5, 2) := by decide +kernel
theorem dL_refuses_635 : decode cL_refuses 635 = .ok (.sipush 1000, 3) := by decide +kernel
theorem dL_refuses_638 : decode cL_refuses 638 = .ok (.aload_n 1, 1) := by decide +kernel
theorem dL_refuses_639 : decode cL_refuses 639 = .ok (.iload 5, 2) := by decide +kernel
theorem dL_refuses_641 : decode cL_refuses 641 = .ok (.iaload, 1) := by decide +kernel
theorem dL_refuses_642 : decode cL_refuses 642 = .ok (.iadd, 1) := by decide +kernel
theorem dL_refuses_643 : decode cL_refuses 643 = .ok (.invokestatic 119, 3) := by decide +kernel
theorem dL_refuses_646 : decode cL_refuses 646 = .ok (.ifCond .ne 7, 3) := by decide +kernel
theorem dL_refuses_649 : decode cL_refuses 649 = .ok (.iconst 1, 1) := by decide +kernel
theorem dL_refuses_650 : decode cL_refuses 650 = .ok (.goto 4, 3) := by decide +kernel
theorem dL_refuses_653 : decode cL_refuses 653 = .ok (.iconst 0, 1) := by decide +kernel
theorem dL_refuses_654 : decode cL_refuses 654 = .ok (.istore 6, 2) := by decide +kernel
theorem dL_refuses_656 : decode cL_refuses 656 = .ok (.iload 6, 2) := by decide +kernel
theorem dL_refuses_658 : decode cL_refuses 658 = .ok (.ifCond .eq 171, 3) := by decide +kernel
theorem dL_refuses_661 : decode cL_refuses 661 = .ok (.aload_n 0, 1) := by decide +kernel
theorem dL_refuses_662 : decode cL_refuses 662 = .ok (.invokevirtual 85, 3) := by decide +kernel
theorem dL_refuses_665 : decode cL_refuses 665 = .ok (.ifCond .le 164, 3) := by decide +kernel
theorem dL_refuses_668 : decode cL_refuses 668 = .ok (.iload_n 2, 1) := by decide +kernel
theorem dL_refuses_669 : decode cL_refuses 669 = .ok (.iconst 4, 1) := by decide +kernel
theorem dL_refuses_670 : decode cL_refuses 670 = .ok (.idiv, 1) := by decide +kernel
theorem dL_refuses_671 : decode cL_refuses 671 = .ok (.aload_n 0, 1) := by decide +kernel
theorem dL_refuses_672 : decode cL_refuses 672 = .ok (.invokevirtual 85, 3) := by decide +kernel
theorem dL_refuses_675 : decode cL_refuses 675 = .ok (.irem, 1) := by decide +kernel
theorem dL_refuses_676 : decode cL_refuses 676 = .ok (.istore 7, 2) := by decide +kernel
theorem dL_refuses_678 : decode cL_refuses 678 = .ok (.aload_n 0, 1) := by decide +kernel
theorem dL_refuses_679 : decode cL_refuses 679 = .ok (.iload 7, 2) := by decide +kernel
theorem dL_refuses_681 : decode cL_refuses 681 = .ok (.iload 4, 2) := by decide +kernel
theorem dL_refuses_683 : decode cL_refuses 683 = .ok (.invokestatic 95, 3) := by decide +kernel
theorem dL_refuses_686 : decode cL_refuses 686 = .ok (.ldc 15, 2) := by decide +kernel
theorem dL_refuses_688 : decode cL_refuses 688 = .ok (.if_icmp .ne 138, 3) := by decide +kernel
theorem dL_refuses_691 : decode cL_refuses 691 = .ok (.aload_n 0, 1) := by decide +kernel
theorem dL_refuses_692 : decode cL_refuses 692 = .ok (.iload 7, 2) := by decide +kernel
theorem dL_refuses_694 : decode cL_refuses 694 = .ok (.iconst 2, 1) := by decide +kernel
theorem dL_refuses_695 : decode cL_refuses 695 = .ok (.iload_n 2, 1) := by decide +kernel
theorem dL_refuses_696 : decode cL_refuses 696 = .ok (.iadd, 1) := by decide +kernel
theorem dL_refuses_697 : decode cL_refuses 697 = .ok (.iconst 0, 1) := by decide +kernel
theorem dL_refuses_698 : decode cL_refuses 698 = .ok (.invokestatic 98, 3) := by decide +kernel
theorem dL_refuses_701 : decode cL_refuses 701 = .ok (.ldc 15, 2) := by decide +kernel
theorem dL_refuses_703 : decode cL_refuses 703 = .ok (.if_icmp .ne 123, 3) := by decide +kernel
theorem dL_refuses_706 : decode cL_refuses 706 = .ok (.aload_n 0, 1) := by decide +kernel
theorem dL_refuses_707 : decode cL_refuses 707 = .ok (.iload 7, 2) := by decide +kernel
theorem dL_refuses_709 : decode cL_refuses 709 = .ok (.iconst 0, 1) := by decide +kernel
theorem dL_refuses_710 : decode cL_refuses 710 = .ok (.iconst 3, 1) := by decide +kernel
theorem dL_refuses_711 : decode cL_refuses 711 = .ok (.iload_n 2, 1) := by decide +kernel
theorem dL_refuses_712 : decode cL_refuses 712 = .ok (.iadd, 1) := by decide +kernel
theorem dL_refuses_713 : decode cL_refuses 713 = .ok (.invokestatic 98, 3) := by decide +kernel
theorem dL_refuses_716 : decode cL_refuses 716 = .ok (.ldc 15, 2) := by decide +kernel
theorem dL_refuses_718 : decode cL_refuses 718 = .ok (.if_icmp .ne 108, 3) := by decide +kernel
theorem dL_refuses_721 : decode cL_refuses 721 = .ok (.aload_n 0, 1) := by decide +kernel
theorem dL_refuses_722 : decode cL_refuses 722 = .ok (.iload 7, 2) := by decide +kernel
theorem dL_refuses_724 : decode cL_refuses 724 = .ok (.iconst 1, 1) := by decide +kernel
theorem dL_refuses_725 : decode cL_refuses 725 = .ok (.sipush 10001, 3) := by decide +kernel
theorem dL_refuses_728 : decode cL_refuses 728 = .ok (.iload_n 2, 1) := by decide +kernel
theorem dL_refuses_729 : decode cL_refuses 729 = .ok (.iadd, 1) := by decide +kernel
theorem dL_refuses_730 : decode cL_refuses 730 = .ok (.invokestatic 98, 3) := by decide +kernel
theorem dL_refuses_733 : decode cL_refuses 733 = .ok (.ldc 15, 2) := by decide +kernel
theorem dL_refuses_735 : decode cL_refuses 735 = .ok (.if_icmp .ne 91, 3) := by decide +kernel
theorem dL_refuses_738 : decode cL_refuses 738 = .ok (.aload_n 0, 1) := by decide +kernel
theorem dL_refuses_739 : decode cL_refuses 739 = .ok (.iload 7, 2) := by decide +kernel
theorem dL_refuses_741 : decode cL_refuses 741 = .ok (.iconst 1, 1) := by decide +kernel
theorem dL_refuses_742 : decode cL_refuses 742 = .ok (.iconst (-1), 1) := by decide +kernel
theorem dL_refuses_743 : decode cL_refuses 743 = .ok (.iload_n 2, 1) := by decide +kernel
theorem dL_refuses_744 : decode cL_refuses 744 = .ok (.isub, 1) := by decide +kernel
theorem dL_refuses_745 : decode cL_refuses 745 = .ok (.invokestatic 98, 3) := by decide +kernel
theorem dL_refuses_748 : decode cL_refuses 748 = .ok (.ldc 15, 2) := by decide +kernel
theorem dL_refuses_750 : decode cL_refuses 750 = .ok (.if_icmp .ne 76, 3) := by decide +kernel
theorem dL_refuses_753 : decode cL_refuses 753 = .ok (.aload_n 0, 1) := by decide +kernel
theorem dL_refuses_754 : decode cL_refuses 754 = .ok (.iload 7, 2) := by decide +kernel
theorem dL_refuses_756 : decode cL_refuses 756 = .ok (.iconst 2, 1) := by decide +kernel
theorem dL_refuses_757 : decode cL_refuses 757 = .ok (.iload_n 2, 1) := by decide +kernel
theorem dL_refuses_758 : decode cL_refuses 758 = .ok (.iadd, 1) := by decide +kernel
theorem dL_refuses_759 : decode cL_refuses 759 = .ok (.invokestatic 107, 3) := by decide +kernel
theorem dL_refuses_762 : decode cL_refuses 762 = .ok (.ldc 15, 2) := by decide +kernel
theorem dL_refuses_764 : decode cL_refuses 764 = .ok (.if_icmp .ne 62, 3) := by decide +kernel
theorem dL_refuses_767 : decode cL_refuses 767 = .ok (.aload_n 0, 1) := by decide +kernel
theorem dL_refuses_768 : decode cL_refuses 768 = .ok (.iload 7, 2) := by decide +kernel
theorem dL_refuses_770 : decode cL_refuses 770 = .ok (.iconst (-1), 1) := by decide +kernel
theorem dL_refuses_771 : decode cL_refuses 771 = .ok (.iload_n 2, 1) := by decide +kernel
theorem dL_refuses_772 : decode cL_refuses 772 = .ok (.isub, 1) := by decide +kernel
theorem dL_refuses_773 : decode cL_refuses 773 = .ok (.invokestatic 109, 3) := by decide +kernel
theorem dL_refuses_776 : decode cL_refuses 776 = .ok (.ldc 15, 2) := by decide +kernel
theorem dL_refuses_778 : decode cL_refuses 778 = .ok (.if_icmp .ne 48, 3) := by decide +kernel
theorem dL_refuses_781 : decode cL_refuses 781 = .ok (.aload_n 0, 1) := by decide +kernel
theorem dL_refuses_782 : decode cL_refuses 782 = .ok (.iload 5, 2) := by decide +kernel
theorem dL_refuses_784 : decode cL_refuses 784 = .ok (.iload 7, 2) := by decide +kernel
theorem dL_refuses_786 : decode cL_refuses 786 = .ok (.invokestatic 119, 3) := by decide +kernel
theorem dL_refuses_789 : decode cL_refuses 789 = .ok (.iconst 1, 1) := by decide +kernel
theorem dL_refuses_790 : decode cL_refuses 790 = .ok (.if_icmp .eq 32, 3) := by decide +kernel
theorem dL_refuses_793 : decode cL_refuses 793 = .ok (.aload_n 0, 1) := by decide +kernel
theorem dL_refuses_794 : decode cL_refuses 794 = .ok (.iload 5, 2) := by decide +kernel
theorem dL_refuses_796 : decode cL_refuses 796 = .ok (.iload 7, 2) := by decide +kernel
theorem dL_refuses_798 : decode cL_refuses 798 = .ok (.iconst 1, 1) := by decide +kernel
theorem dL_refuses_799 : decode cL_refuses 799 = .ok (.invokestatic 121, 3) := by decide +kernel
theorem dL_refuses_802 : decode cL_refuses 802 = .ok (.ldc 18, 2) := by decide +kernel
theorem dL_refuses_804 : decode cL_refuses 804 = .ok (.if_icmp .ne 22, 3) := by decide +kernel
theorem dL_refuses_807 : decode cL_refuses 807 = .ok (.aload_n 0, 1) := by decide +kernel
theorem dL_refuses_808 : decode cL_refuses 808 = .ok (.iload 5, 2) := by decide +kernel
theorem dL_refuses_810 : decode cL_refuses 810 = .ok (.iload 7, 2) := by decide +kernel
theorem dL_refuses_812 : decode cL_refuses 812 = .ok (.iconst 0, 1) := by decide +kernel
theorem dL_refuses_813 : decode cL_refuses 813 = .ok (.iconst 1, 1) := by decide +kernel
theorem dL_refuses_814 : decode cL_refuses 814 = .ok (.invokestatic 123, 3) := by decide +kernel
theorem dL_refuses_817 : decode cL_refuses 817 = .ok (.ldc 18, 2) := by decide +kernel
theorem dL_refuses_819 : decode cL_refuses 819 = .ok (.if_icmp .ne 7, 3) := by decide +kernel
theorem dL_refuses_822 : decode cL_refuses 822 = .ok (.iconst 1, 1) := by decide +kernel
theorem dL_refuses_823 : decode cL_refuses 823 = .ok (.goto 4, 3) := by decide +kernel
theorem dL_refuses_826 : decode cL_refuses 826 = .ok (.iconst 0, 1) := by decide +kernel
theorem dL_refuses_827 : decode cL_refuses 827 = .ok (.istore 6, 2) := by decide +kernel
theorem dL_refuses_829 : decode cL_refuses 829 = .ok (.iload 6, 2) := by decide +kernel
theorem dL_refuses_831 : decode cL_refuses 831 = .ok (.ifCond .eq 27, 3) := by decide +kernel
theorem dL_refuses_834 : decode cL_refuses 834 = .ok (.aload_n 0, 1) := by decide +kernel
theorem dL_refuses_835 : decode cL_refuses 835 = .ok (.invokevirtual 85, 3) := by decide +kernel
theorem dL_refuses_838 : decode cL_refuses 838 = .ok (.bipush 40, 2) := by decide +kernel
theorem dL_refuses_840 : decode cL_refuses 840 = .ok (.if_icmp .lt 14, 3) := by decide +kernel
theorem dL_refuses_843 : decode cL_refuses 843 = .ok (.aload_n 0, 1) := by decide +kernel
theorem dL_refuses_844 : decode cL_refuses 844 = .ok (.iconst 0, 1) := by decide +kernel
theorem dL_refuses_845 : decode cL_refuses 845 = .ok (.iconst 0, 1) := by decide +kernel
theorem dL_refuses_846 : decode cL_refuses 846 = .ok (.invokestatic 89, 3) := by decide +kernel
theorem dL_refuses_849 : decode cL_refuses 849 = .ok (.ldc 18, 2) := by decide +kernel
theorem dL_refuses_851 : decode cL_refuses 851 = .ok (.if_icmp .ne 7, 3) := by decide +kernel
theorem dL_refuses_854 : decode cL_refuses 854 = .ok (.iconst 1, 1) := by decide +kernel
theorem dL_refuses_855 : decode cL_refuses 855 = .ok (.goto 4, 3) := by decide +kernel
theorem dL_refuses_858 : decode cL_refuses 858 = .ok (.iconst 0, 1) := by decide +kernel
theorem dL_refuses_859 : decode cL_refuses 859 = .ok (.ireturn, 1) := by decide +kernel
theorem dL_act_0 : decode cL_act 0 = .ok (.iload_n 2, 1) := by decide +kernel
theorem dL_act_1 : decode cL_act 1 = .ok (.bipush 16, 2) := by decide +kernel
theorem dL_act_3 : decode cL_act 3 = .ok (.idiv, 1) := by decide +kernel
theorem dL_act_4 : decode cL_act 4 = .ok (.istore 4, 2) := by decide +kernel
theorem dL_act_6 : decode cL_act 6 = .ok (.iload 4, 2) := by decide +kernel
theorem dL_act_8 : decode cL_act 8 = .ok (.iconst 4, 1) := by decide +kernel
theorem dL_act_9 : decode cL_act 9 = .ok (.irem, 1) := by decide +kernel
theorem dL_act_10 : decode cL_act 10 = .ok (.istore 5, 2) := by decide +kernel
theorem dL_act_12 : decode cL_act 12 = .ok (.aload_n 0, 1) := by decide +kernel
theorem dL_act_13 : decode cL_act 13 = .ok (.invokevirtual 85, 3) := by decide +kernel
theorem dL_act_16 : decode cL_act 16 = .ok (.ifCond .ne 7, 3) := by decide +kernel
theorem dL_act_19 : decode cL_act 19 = .ok (.iconst 0, 1) := by decide +kernel
theorem dL_act_20 : decode cL_act 20 = .ok (.goto 12, 3) := by decide +kernel
theorem dL_act_23 : decode cL_act 23 = .ok (.iload 4, 2) := by decide +kernel
theorem dL_act_25 : decode cL_act 25 = .ok (.iconst 4, 1) := by decide +kernel
theorem dL_act_26 : decode cL_act 26 = .ok (.idiv, 1) := by decide +kernel
theorem dL_act_27 : decode cL_act 27 = .ok (.aload_n 0, 1) := by decide +kernel
theorem dL_act_28 : decode cL_act 28 = .ok (.invokevirtual 85, 3) := by decide +kernel
theorem dL_act_31 : decode cL_act 31 = .ok (.irem, 1) := by decide +kernel
theorem dL_act_32 : decode cL_act 32 = .ok (.istore 6, 2) := by decide +kernel
theorem dL_act_34 : decode cL_act 34 = .ok (.sipush 1000, 3) := by decide +kernel
theorem dL_act_37 : decode cL_act 37 = .ok (.aload_n 1, 1) := by decide +kernel
theorem dL_act_38 : decode cL_act 38 = .ok (.iload 5, 2) := by decide +kernel
theorem dL_act_40 : decode cL_act 40 = .ok (.iaload, 1) := by decide +kernel
theorem dL_act_41 : decode cL_act 41 = .ok (.ifCond .ne 7, 3) := by decide +kernel
theorem dL_act_44 : decode cL_act 44 = .ok (.iconst 0, 1) := by decide +kernel
theorem dL_act_45 : decode cL_act 45 = .ok (.goto 12, 3) := by decide +kernel
theorem dL_act_48 : decode cL_act 48 = .ok (.iload 4, 2) := by decide +kernel
theorem dL_act_50 : decode cL_act 50 = .ok (.iconst 4, 1) := by decide +kernel
theorem dL_act_51 : decode cL_act 51 = .ok (.idiv, 1) := by decide +kernel
theorem dL_act_52 : decode cL_act 52 = .ok (.aload_n 1, 1) := by decide +kernel
theorem dL_act_53 : decode cL_act 53 = .ok (.iload 5, 2) := by decide +kernel
theorem dL_act_55 : decode cL_act 55 = .ok (.iaload, 1) := by decide +kernel
theorem dL_act_56 : decode cL_act 56 = .ok (.irem, 1) := by decide +kernel
theorem dL_act_57 : decode cL_act 57 = .ok (.iadd, 1) := by decide +kernel
theorem dL_act_58 : decode cL_act 58 = .ok (.istore 7, 2) := by decide +kernel
theorem dL_act_60 : decode cL_act 60 = .ok (.iload 4, 2) := by decide +kernel
theorem dL_act_62 : decode cL_act 62 = .ok (.sipush 160, 3) := by decide +kernel
theorem dL_act_65 : decode cL_act 65 = .ok (.idiv, 1) := by decide +kernel
theorem dL_act_66 : decode cL_act 66 = .ok (.iconst 2, 1) := by decide +kernel
theorem dL_act_67 : decode cL_act 67 = .ok (.irem, 1) := by decide +kernel
theorem dL_act_68 : decode cL_act 68 = .ok (.istore 8, 2) := by decide +kernel
theorem dL_act_70 : decode cL_act 70 = .ok (.iload 8, 2) := by decide +kernel
theorem dL_act_72 : decode cL_act 72 = .ok (.ifCond .ne 14, 3) := by decide +kernel
theorem dL_act_75 : decode cL_act 75 = .ok (.iload 4, 2) := by decide +kernel
theorem dL_act_77 : decode cL_act 77 = .ok (.sipush 320, 3) := by decide +kernel
theorem dL_act_80 : decode cL_act 80 = .ok (.idiv, 1) := by decide +kernel
theorem dL_act_81 : decode cL_act 81 = .ok (.iconst 3, 1) := by decide +kernel
theorem dL_act_82 : decode cL_act 82 = .ok (.irem, 1) := by decide +kernel
theorem dL_act_83 : decode cL_act 83 = .ok (.goto 14, 3) := by decide +kernel
theorem dL_act_86 : decode cL_act 86 = .ok (.iload 4, 2) := by decide +kernel
theorem dL_act_88 : decode cL_act 88 = .ok (.sipush 320, 3) := by decide +kernel
theorem dL_act_91 : decode cL_act 91 = .ok (.idiv, 1) := by decide +kernel
theorem dL_act_92 : decode cL_act 92 = .ok (.iconst 4, 1) := by decide +kernel
theorem dL_act_93 : decode cL_act 93 = .ok (.irem, 1) := by decide +kernel
theorem dL_act_94 : decode cL_act 94 = .ok (.bipush 100, 2) := by decide +kernel
theorem dL_act_96 : decode cL_act 96 = .ok (.imul, 1) := by decide +kernel
theorem dL_act_97 : decode cL_act 97 = .ok (.istore 9, 2) := by decide +kernel
theorem dL_act_99 : decode cL_act 99 = .ok (.iload_n 2, 1) := by decide +kernel
theorem dL_act_100 : decode cL_act 100 = .ok (.bipush 16, 2) := by decide +kernel
theorem dL_act_102 : decode cL_act 102 = .ok (.irem, 1) := by decide +kernel
theorem dL_act_103 : decode cL_act 103 = .ok (.tableswitch 166 0 12 #[65, 65, 79, 94, 94, 105, 119, 119, 126, 126, 126, 139, 152], 65) := by decide +kernel
theorem dL_act_168 : decode cL_act 168 = .ok (.aload_n 0, 1) := by decide +kernel
theorem dL_act_169 : decode cL_act 169 = .ok (.iload 5, 2) := by decide +kernel
theorem dL_act_171 : decode cL_act 171 = .ok (.iload 4, 2) := by decide +kernel
theorem dL_act_173 : decode cL_act 173 = .ok (.iconst 4, 1) := by decide +kernel
theorem dL_act_174 : decode cL_act 174 = .ok (.idiv, 1) := by decide +kernel
theorem dL_act_175 : decode cL_act 175 = .ok (.bipush 10, 2) := by decide +kernel
theorem dL_act_177 : decode cL_act 177 = .ok (.irem, 1) := by decide +kernel
theorem dL_act_178 : decode cL_act 178 = .ok (.invokestatic 89, 3) := by decide +kernel
theorem dL_act_181 : decode cL_act 181 = .ok (.ireturn, 1) := by decide +kernel
theorem dL_act_182 : decode cL_act 182 = .ok (.aload_n 0, 1) := by decide +kernel
theorem dL_act_183 : decode cL_act 183 = .ok (.iload 6, 2) := by decide +kernel
theorem dL_act_185 : decode cL_act 185 = .ok (.iload 4, 2) := by decide +kernel
theorem dL_act_187 : decode cL_act 187 = .ok (.sipush 160, 3) := by decide +kernel
theorem dL_act_190 : decode cL_act 190 = .ok (.idiv, 1) := by decide +kernel
theorem dL_act_191 : decode cL_act 191 = .ok (.iconst 4, 1) := by decide +kernel
theorem dL_act_192 : decode cL_act 192 = .ok (.irem, 1) := by decide +kernel
theorem dL_act_193 : decode cL_act 193 = .ok (.invokestatic 95, 3) := by decide +kernel
theorem dL_act_196 : decode cL_act 196 = .ok (.ireturn, 1) := by decide +kernel
theorem dL_act_197 : decode cL_act 197 = .ok (.aload_n 0, 1) := by decide +kernel
theorem dL_act_198 : decode cL_act 198 = .ok (.iload 6, 2) := by decide +kernel
theorem dL_act_200 : decode cL_act 200 = .ok (.iload 8, 2) := by decide +kernel
theorem dL_act_202 : decode cL_act 202 = .ok (.iload 9, 2) := by decide +kernel
theorem dL_act_204 : decode cL_act 204 = .ok (.invokestatic 98, 3) := by decide +kernel
theorem dL_act_207 : decode cL_act 207 = .ok (.ireturn, 1) := by decide +kernel
theorem dL_act_208 : decode cL_act 208 = .ok (.aload_n 0, 1) := by decide +kernel
theorem dL_act_209 : decode cL_act 209 = .ok (.iload 5, 2) := by decide +kernel
theorem dL_act_211 : decode cL_act 211 = .ok (.iload 4, 2) := by decide +kernel
theorem dL_act_213 : decode cL_act 213 = .ok (.iconst 4, 1) := by decide +kernel
theorem dL_act_214 : decode cL_act 214 = .ok (.idiv, 1) := by decide +kernel
theorem dL_act_215 : decode cL_act 215 = .ok (.bipush 41, 2) := by decide +kernel
theorem dL_act_217 : decode cL_act 217 = .ok (.irem, 1) := by decide +kernel
theorem dL_act_218 : decode cL_act 218 = .ok (.invokestatic 111, 3) := by decide +kernel
theorem dL_act_221 : decode cL_act 221 = .ok (.ireturn, 1) := by decide +kernel
theorem dL_act_222 : decode cL_act 222 = .ok (.aload_n 0, 1) := by decide +kernel
theorem dL_act_223 : decode cL_act 223 = .ok (.iload 5, 2) := by decide +kernel
theorem dL_act_225 : decode cL_act 225 = .ok (.invokestatic 114, 3) := by decide +kernel
theorem dL_act_228 : decode cL_act 228 = .ok (.ireturn, 1) := by decide +kernel
theorem dL_act_229 : decode cL_act 229 = .ok (.aload_n 0, 1) := by decide +kernel
theorem dL_act_230 : decode cL_act 230 = .ok (.iload 5, 2) := by decide +kernel
theorem dL_act_232 : decode cL_act 232 = .ok (.iload 6, 2) := by decide +kernel
theorem dL_act_234 : decode cL_act 234 = .ok (.iload 8, 2) := by decide +kernel
theorem dL_act_236 : decode cL_act 236 = .ok (.iload 9, 2) := by decide +kernel
theorem dL_act_238 : decode cL_act 238 = .ok (.invokestatic 123, 3) := by decide +kernel
theorem dL_act_241 : decode cL_act 241 = .ok (.ireturn, 1) := by decide +kernel
theorem dL_act_242 : decode cL_act 242 = .ok (.aload_n 0, 1) := by decide +kernel
theorem dL_act_243 : decode cL_act 243 = .ok (.iload 5, 2) := by decide +kernel
theorem dL_act_245 : decode cL_act 245 = .ok (.iload 7, 2) := by decide +kernel
theorem dL_act_247 : decode cL_act 247 = .ok (.iload 8, 2) := by decide +kernel
theorem dL_act_249 : decode cL_act 249 = .ok (.iload 9, 2) := by decide +kernel
theorem dL_act_251 : decode cL_act 251 = .ok (.invokestatic 123, 3) := by decide +kernel
theorem dL_act_254 : decode cL_act 254 = .ok (.ireturn, 1) := by decide +kernel
theorem dL_act_255 : decode cL_act 255 = .ok (.aload_n 0, 1) := by decide +kernel
theorem dL_act_256 : decode cL_act 256 = .ok (.iload 5, 2) := by decide +kernel
theorem dL_act_258 : decode cL_act 258 = .ok (.iload 4, 2) := by decide +kernel
theorem dL_act_260 : decode cL_act 260 = .ok (.iconst 4, 1) := by decide +kernel
theorem dL_act_261 : decode cL_act 261 = .ok (.idiv, 1) := by decide +kernel
theorem dL_act_262 : decode cL_act 262 = .ok (.bipush 10, 2) := by decide +kernel
theorem dL_act_264 : decode cL_act 264 = .ok (.irem, 1) := by decide +kernel
theorem dL_act_265 : decode cL_act 265 = .ok (.invokestatic 127, 3) := by decide +kernel
theorem dL_act_268 : decode cL_act 268 = .ok (.ireturn, 1) := by decide +kernel
theorem dL_act_269 : decode cL_act 269 = .ok (.iconst 1, 1) := by decide +kernel
theorem dL_act_270 : decode cL_act 270 = .ok (.iload 4, 2) := by decide +kernel
theorem dL_act_272 : decode cL_act 272 = .ok (.iconst 4, 1) := by decide +kernel
theorem dL_act_273 : decode cL_act 273 = .ok (.idiv, 1) := by decide +kernel
theorem dL_act_274 : decode cL_act 274 = .ok (.iload 4, 2) := by decide +kernel
theorem dL_act_276 : decode cL_act 276 = .ok (.iconst 3, 1) := by decide +kernel
theorem dL_act_277 : decode cL_act 277 = .ok (.irem, 1) := by decide +kernel
theorem dL_act_278 : decode cL_act 278 = .ok (.ifCond .ne 7, 3) := by decide +kernel
theorem dL_act_281 : decode cL_act 281 = .ok (.iconst 4, 1) := by decide +kernel
theorem dL_act_282 : decode cL_act 282 = .ok (.goto 5, 3) := by decide +kernel
theorem dL_act_285 : decode cL_act 285 = .ok (.bipush 60, 2) := by decide +kernel
theorem dL_act_287 : decode cL_act 287 = .ok (.irem, 1) := by decide +kernel
theorem dL_act_288 : decode cL_act 288 = .ok (.iadd, 1) := by decide +kernel
theorem dL_act_289 : decode cL_act 289 = .ok (.istore 10, 2) := by decide +kernel
theorem dL_act_291 : decode cL_act 291 = .ok (.iconst 0, 1) := by decide +kernel
theorem dL_act_292 : decode cL_act 292 = .ok (.istore 11, 2) := by decide +kernel
theorem dL_act_294 : decode cL_act 294 = .ok (.iconst 0, 1) := by decide +kernel
theorem dL_act_295 : decode cL_act 295 = .ok (.istore 12, 2) := by decide +kernel
theorem dL_act_297 : decode cL_act 297 = .ok (.iload 12, 2) := by decide +kernel
theorem dL_act_299 : decode cL_act 299 = .ok (.iload 10, 2) := by decide +kernel
theorem dL_act_301 : decode cL_act 301 = .ok (.if_icmp .ge 34, 3) := by decide +kernel
theorem dL_act_304 : decode cL_act 304 = .ok (.iload_n 3, 1) := by decide +kernel
theorem dL_act_305 : decode cL_act 305 = .ok (.ifCond .eq 30, 3) := by decide +kernel
theorem dL_act_308 : decode cL_act 308 = .ok (.aload_n 0, 1) := by decide +kernel
theorem dL_act_309 : decode cL_act 309 = .ok (.iload 5, 2) := by decide +kernel
theorem dL_act_311 : decode cL_act 311 = .ok (.invokestatic 136, 3) := by decide +kernel
theorem dL_act_314 : decode cL_act 314 = .ok (.ifCond .le 21, 3) := by decide +kernel
theorem dL_act_317 : decode cL_act 317 = .ok (.iload 11, 2) := by decide +kernel
theorem dL_act_319 : decode cL_act 319 = .ok (.aload_n 0, 1) := by decide +kernel
theorem dL_act_320 : decode cL_act 320 = .ok (.iload 5, 2) := by decide +kernel
theorem dL_act_322 : decode cL_act 322 = .ok (.iconst 1, 1) := by decide +kernel
theorem dL_act_323 : decode cL_act 323 = .ok (.invokestatic 133, 3) := by decide +kernel
theorem dL_act_326 : decode cL_act 326 = .ok (.iadd, 1) := by decide +kernel
theorem dL_act_327 : decode cL_act 327 = .ok (.istore 11, 2) := by decide +kernel
theorem dL_act_329 : decode cL_act 329 = .ok (.iinc 12 1, 3) := by decide +kernel
theorem dL_act_332 : decode cL_act 332 = .ok (.goto (-35), 3) := by decide +kernel
theorem dL_act_335 : decode cL_act 335 = .ok (.iload_n 3, 1) := by decide +kernel
theorem dL_act_336 : decode cL_act 336 = .ok (.ifCond .eq 8, 3) := by decide +kernel
theorem dL_act_339 : decode cL_act 339 = .ok (.iload 11, 2) := by decide +kernel
theorem dL_act_341 : decode cL_act 341 = .ok (.goto 11, 3) := by decide +kernel
theorem dL_act_344 : decode cL_act 344 = .ok (.aload_n 0, 1) := by decide +kernel
theorem dL_act_345 : decode cL_act 345 = .ok (.iload 5, 2) := by decide +kernel
theorem dL_act_347 : decode cL_act 347 = .ok (.iload 10, 2) := by decide +kernel
theorem dL_act_349 : decode cL_act 349 = .ok (.invokestatic 133, 3) := by decide +kernel
theorem dL_act_352 : decode cL_act 352 = .ok (.ireturn, 1) := by decide +kernel
theorem dL_alike_0 : decode cL_alike 0 = .ok (.aload_n 0, 1) := by decide +kernel
theorem dL_alike_1 : decode cL_alike 1 = .ok (.invokevirtual 85, 3) := by decide +kernel
theorem dL_alike_4 : decode cL_alike 4 = .ok (.aload_n 1, 1) := by decide +kernel
theorem dL_alike_5 : decode cL_alike 5 = .ok (.invokevirtual 85, 3) := by decide +kernel
theorem dL_alike_8 : decode cL_alike 8 = .ok (.if_icmp .ne 18, 3) := by decide +kernel
theorem dL_alike_11 : decode cL_alike 11 = .ok (.aload_n 0, 1) := by decide +kernel
theorem dL_alike_12 : decode cL_alike 12 = .ok (.invokevirtual 145, 3) := by decide +kernel
theorem dL_alike_15 : decode cL_alike 15 = .ok (.aload_n 1, 1) := by decide +kernel
theorem dL_alike_16 : decode cL_alike 16 = .ok (.invokevirtual 145, 3) := by decide +kernel
theorem dL_alike_19 : decode cL_alike 19 = .ok (.if_icmp .ne 7, 3) := by decide +kernel
theorem dL_alike_22 : decode cL_alike 22 = .ok (.iconst 1, 1) := by decide +kernel
theorem dL_alike_23 : decode cL_alike 23 = .ok (.goto 4, 3) := by decide +kernel
theorem dL_alike_26 : decode cL_alike 26 = .ok (.iconst 0, 1) := by decide +kernel
theorem dL_alike_27 : decode cL_alike 27 = .ok (.istore_n 3, 1) := by decide +kernel
theorem dL_alike_28 : decode cL_alike 28 = .ok (.iconst 0, 1) := by decide +kernel
theorem dL_alike_29 : decode cL_alike 29 = .ok (.istore 4, 2) := by decide +kernel
theorem dL_alike_31 : decode cL_alike 31 = .ok (.iload 4, 2) := by decide +kernel
theorem dL_alike_33 : decode cL_alike 33 = .ok (.aload_n 0, 1) := by decide +kernel
theorem dL_alike_34 : decode cL_alike 34 = .ok (.invokevirtual 85, 3) := by decide +kernel
theorem dL_alike_37 : decode cL_alike 37 = .ok (.if_icmp .ge 108, 3) := by decide +kernel
theorem dL_alike_40 : decode cL_alike 40 = .ok (.iload_n 3, 1) := by decide +kernel
theorem dL_alike_41 : decode cL_alike 41 = .ok (.ifCond .eq 104, 3) := by decide +kernel
theorem dL_alike_44 : decode cL_alike 44 = .ok (.aload_n 0, 1) := by decide +kernel
theorem dL_alike_45 : decode cL_alike 45 = .ok (.iload 4, 2) := by decide +kernel
theorem dL_alike_47 : decode cL_alike 47 = .ok (.invokestatic 102, 3) := by decide +kernel
theorem dL_alike_50 : decode cL_alike 50 = .ok (.aload_n 1, 1) := by decide +kernel
theorem dL_alike_51 : decode cL_alike 51 = .ok (.iload 4, 2) := by decide +kernel
theorem dL_alike_53 : decode cL_alike 53 = .ok (.invokestatic 102, 3) := by decide +kernel
theorem dL_alike_56 : decode cL_alike 56 = .ok (.if_icmp .ne 81, 3) := by decide +kernel
theorem dL_alike_59 : decode cL_alike 59 = .ok (.aload_n 0, 1) := by decide +kernel
theorem dL_alike_60 : decode cL_alike 60 = .ok (.iload 4, 2) := by decide +kernel
theorem dL_alike_62 : decode cL_alike 62 = .ok (.invokestatic 105, 3) := by decide +kernel
theorem dL_alike_65 : decode cL_alike 65 = .ok (.aload_n 1, 1) := by decide +kernel
theorem dL_alike_66 : decode cL_alike 66 = .ok (.iload 4, 2) := by decide +kernel
theorem dL_alike_68 : decode cL_alike 68 = .ok (.invokestatic 105, 3) := by decide +kernel
theorem dL_alike_71 : decode cL_alike 71 = .ok (.if_icmp .ne 66, 3) := by decide +kernel
theorem dL_alike_74 : decode cL_alike 74 = .ok (.aload_n 0, 1) := by decide +kernel
theorem dL_alike_75 : decode cL_alike 75 = .ok (.iload 4, 2) := by decide +kernel
theorem dL_alike_77 : decode cL_alike 77 = .ok (.iconst 0, 1) := by decide +kernel
theorem dL_alike_78 : decode cL_alike 78 = .ok (.invokestatic 107, 3) := by decide +kernel
theorem dL_alike_81 : decode cL_alike 81 = .ok (.aload_n 1, 1) := by decide +kernel
theorem dL_alike_82 : decode cL_alike 82 = .ok (.iload 4, 2) := by decide +kernel
theorem dL_alike_84 : decode cL_alike 84 = .ok (.iconst 0, 1) := by decide +kernel
theorem dL_alike_85 : decode cL_alike 85 = .ok (.invokestatic 107, 3) := by decide +kernel
theorem dL_alike_88 : decode cL_alike 88 = .ok (.if_icmp .ne 49, 3) := by decide +kernel
theorem dL_alike_91 : decode cL_alike 91 = .ok (.aload_n 0, 1) := by decide +kernel
theorem dL_alike_92 : decode cL_alike 92 = .ok (.iload 4, 2) := by decide +kernel
theorem dL_alike_94 : decode cL_alike 94 = .ok (.iconst 1, 1) := by decide +kernel
theorem dL_alike_95 : decode cL_alike 95 = .ok (.invokestatic 109, 3) := by decide +kernel
theorem dL_alike_98 : decode cL_alike 98 = .ok (.aload_n 1, 1) := by decide +kernel
theorem dL_alike_99 : decode cL_alike 99 = .ok (.iload 4, 2) := by decide +kernel
theorem dL_alike_101 : decode cL_alike 101 = .ok (.iconst 1, 1) := by decide +kernel
theorem dL_alike_102 : decode cL_alike 102 = .ok (.invokestatic 109, 3) := by decide +kernel
theorem dL_alike_105 : decode cL_alike 105 = .ok (.if_icmp .ne 32, 3) := by decide +kernel
theorem dL_alike_108 : decode cL_alike 108 = .ok (.aload_n 0, 1) := by decide +kernel
theorem dL_alike_109 : decode cL_alike 109 = .ok (.iload 4, 2) := by decide +kernel
theorem dL_alike_111 : decode cL_alike 111 = .ok (.iconst 4, 1) := by decide +kernel
theorem dL_alike_112 : decode cL_alike 112 = .ok (.irem, 1) := by decide +kernel
theorem dL_alike_113 : decode cL_alike 113 = .ok (.iload 4, 2) := by decide +kernel
theorem dL_alike_115 : decode cL_alike 115 = .ok (.iconst 0, 1) := by decide +kernel
theorem dL_alike_116 : decode cL_alike 116 = .ok (.invokestatic 121, 3) := by decide +kernel
theorem dL_alike_119 : decode cL_alike 119 = .ok (.aload_n 1, 1) := by decide +kernel
theorem dL_alike_120 : decode cL_alike 120 = .ok (.iload 4, 2) := by decide +kernel
theorem dL_alike_122 : decode cL_alike 122 = .ok (.iconst 4, 1) := by decide +kernel
theorem dL_alike_123 : decode cL_alike 123 = .ok (.irem, 1) := by decide +kernel
theorem dL_alike_124 : decode cL_alike 124 = .ok (.iload 4, 2) := by decide +kernel
theorem dL_alike_126 : decode cL_alike 126 = .ok (.iconst 0, 1) := by decide +kernel
theorem dL_alike_127 : decode cL_alike 127 = .ok (.invokestatic 121, 3) := by decide +kernel
theorem dL_alike_130 : decode cL_alike 130 = .ok (.if_icmp .ne 7, 3) := by decide +kernel
theorem dL_alike_133 : decode cL_alike 133 = .ok (.iconst 1, 1) := by decide +kernel
theorem dL_alike_134 : decode cL_alike 134 = .ok (.goto 4, 3) := by decide +kernel
theorem dL_alike_137 : decode cL_alike 137 = .ok (.iconst 0, 1) := by decide +kernel
theorem dL_alike_138 : decode cL_alike 138 = .ok (.istore_n 3, 1) := by decide +kernel
theorem dL_alike_139 : decode cL_alike 139 = .ok (.iinc 4 1, 3) := by decide +kernel
theorem dL_alike_142 : decode cL_alike 142 = .ok (.goto (-111), 3) := by decide +kernel
theorem dL_alike_145 : decode cL_alike 145 = .ok (.iconst 0, 1) := by decide +kernel
theorem dL_alike_146 : decode cL_alike 146 = .ok (.istore 4, 2) := by decide +kernel
theorem dL_alike_148 : decode cL_alike 148 = .ok (.iload 4, 2) := by decide +kernel
theorem dL_alike_150 : decode cL_alike 150 = .ok (.iconst 4, 1) := by decide +kernel
theorem dL_alike_151 : decode cL_alike 151 = .ok (.if_icmp .ge 148, 3) := by decide +kernel
theorem dL_alike_154 : decode cL_alike 154 = .ok (.iload_n 3, 1) := by decide +kernel
theorem dL_alike_155 : decode cL_alike 155 = .ok (.ifCond .eq 144, 3) := by decide +kernel
theorem dL_alike_158 : decode cL_alike 158 = .ok (.aload_n 0, 1) := by decide +kernel
theorem dL_alike_159 : decode cL_alike 159 = .ok (.iload 4, 2) := by decide +kernel
theorem dL_alike_161 : decode cL_alike 161 = .ok (.invokestatic 117, 3) := by decide +kernel
theorem dL_alike_164 : decode cL_alike 164 = .ok (.aload_n 1, 1) := by decide +kernel
theorem dL_alike_165 : decode cL_alike 165 = .ok (.iload 4, 2) := by decide +kernel
theorem dL_alike_167 : decode cL_alike 167 = .ok (.invokestatic 117, 3) := by decide +kernel
theorem dL_alike_170 : decode cL_alike 170 = .ok (.if_icmp .ne 37, 3) := by decide +kernel
theorem dL_alike_173 : decode cL_alike 173 = .ok (.aload_n 0, 1) := by decide +kernel
theorem dL_alike_174 : decode cL_alike 174 = .ok (.iload 4, 2) := by decide +kernel
theorem dL_alike_176 : decode cL_alike 176 = .ok (.invokestatic 136, 3) := by decide +kernel
theorem dL_alike_179 : decode cL_alike 179 = .ok (.aload_n 1, 1) := by decide +kernel
theorem dL_alike_180 : decode cL_alike 180 = .ok (.iload 4, 2) := by decide +kernel
theorem dL_alike_182 : decode cL_alike 182 = .ok (.invokestatic 136, 3) := by decide +kernel
theorem dL_alike_185 : decode cL_alike 185 = .ok (.if_icmp .ne 22, 3) := by decide +kernel
theorem dL_alike_188 : decode cL_alike 188 = .ok (.aload_n 0, 1) := by decide +kernel
theorem dL_alike_189 : decode cL_alike 189 = .ok (.iload 4, 2) := by decide +kernel
theorem dL_alike_191 : decode cL_alike 191 = .ok (.invokestatic 138, 3) := by decide +kernel
theorem dL_alike_194 : decode cL_alike 194 = .ok (.aload_n 1, 1) := by decide +kernel
theorem dL_alike_195 : decode cL_alike 195 = .ok (.iload 4, 2) := by decide +kernel
theorem dL_alike_197 : decode cL_alike 197 = .ok (.invokestatic 138, 3) := by decide +kernel
theorem dL_alike_200 : decode cL_alike 200 = .ok (.if_icmp .ne 7, 3) := by decide +kernel
theorem dL_alike_203 : decode cL_alike 203 = .ok (.iconst 1, 1) := by decide +kernel
theorem dL_alike_204 : decode cL_alike 204 = .ok (.goto 4, 3) := by decide +kernel
theorem dL_alike_207 : decode cL_alike 207 = .ok (.iconst 0, 1) := by decide +kernel
theorem dL_alike_208 : decode cL_alike 208 = .ok (.istore_n 3, 1) := by decide +kernel
theorem dL_alike_209 : decode cL_alike 209 = .ok (.iconst 0, 1) := by decide +kernel
theorem dL_alike_210 : decode cL_alike 210 = .ok (.istore 5, 2) := by decide +kernel
theorem dL_alike_212 : decode cL_alike 212 = .ok (.iload 5, 2) := by decide +kernel
theorem dL_alike_214 : decode cL_alike 214 = .ok (.aload_n 2, 1) := by decide +kernel
theorem dL_alike_215 : decode cL_alike 215 = .ok (.iload 4, 2) := by decide +kernel
theorem dL_alike_217 : decode cL_alike 217 = .ok (.iaload, 1) := by decide +kernel
theorem dL_alike_218 : decode cL_alike 218 = .ok (.if_icmp .ge 75, 3) := by decide +kernel
theorem dL_alike_221 : decode cL_alike 221 = .ok (.iload_n 3, 1) := by decide +kernel
theorem dL_alike_222 : decode cL_alike 222 = .ok (.ifCond .eq 71, 3) := by decide +kernel
theorem dL_alike_225 : decode cL_alike 225 = .ok (.aload_n 0, 1) := by decide +kernel
theorem dL_alike_226 : decode cL_alike 226 = .ok (.iload 4, 2) := by decide +kernel
theorem dL_alike_228 : decode cL_alike 228 = .ok (.sipush 1000, 3) := by decide +kernel
theorem dL_alike_231 : decode cL_alike 231 = .ok (.iload 5, 2) := by decide +kernel
theorem dL_alike_233 : decode cL_alike 233 = .ok (.iadd, 1) := by decide +kernel
theorem dL_alike_234 : decode cL_alike 234 = .ok (.invokestatic 130, 3) := by decide +kernel
theorem dL_alike_237 : decode cL_alike 237 = .ok (.aload_n 1, 1) := by decide +kernel
theorem dL_alike_238 : decode cL_alike 238 = .ok (.iload 4, 2) := by decide +kernel
theorem dL_alike_240 : decode cL_alike 240 = .ok (.sipush 1000, 3) := by decide +kernel
theorem dL_alike_243 : decode cL_alike 243 = .ok (.iload 5, 2) := by decide +kernel
theorem dL_alike_245 : decode cL_alike 245 = .ok (.iadd, 1) := by decide +kernel
theorem dL_alike_246 : decode cL_alike 246 = .ok (.invokestatic 130, 3) := by decide +kernel
theorem dL_alike_249 : decode cL_alike 249 = .ok (.if_icmp .ne 36, 3) := by decide +kernel
theorem dL_alike_252 : decode cL_alike 252 = .ok (.aload_n 0, 1) := by decide +kernel
theorem dL_alike_253 : decode cL_alike 253 = .ok (.iload 4, 2) := by decide +kernel
theorem dL_alike_255 : decode cL_alike 255 = .ok (.sipush 1000, 3) := by decide +kernel
theorem dL_alike_258 : decode cL_alike 258 = .ok (.iload 5, 2) := by decide +kernel
theorem dL_alike_260 : decode cL_alike 260 = .ok (.iadd, 1) := by decide +kernel
theorem dL_alike_261 : decode cL_alike 261 = .ok (.iconst 1, 1) := by decide +kernel
theorem dL_alike_262 : decode cL_alike 262 = .ok (.invokestatic 121, 3) := by decide +kernel
theorem dL_alike_265 : decode cL_alike 265 = .ok (.aload_n 1, 1) := by decide +kernel
theorem dL_alike_266 : decode cL_alike 266 = .ok (.iload 4, 2) := by decide +kernel
theorem dL_alike_268 : decode cL_alike 268 = .ok (.sipush 1000, 3) := by decide +kernel
theorem dL_alike_271 : decode cL_alike 271 = .ok (.iload 5, 2) := by decide +kernel
theorem dL_alike_273 : decode cL_alike 273 = .ok (.iadd, 1) := by decide +kernel
theorem dL_alike_274 : decode cL_alike 274 = .ok (.iconst 1, 1) := by decide +kernel
theorem dL_alike_275 : decode cL_alike 275 = .ok (.invokestatic 121, 3) := by decide +kernel
theorem dL_alike_278 : decode cL_alike 278 = .ok (.if_icmp .ne 7, 3) := by decide +kernel
theorem dL_alike_281 : decode cL_alike 281 = .ok (.iconst 1, 1) := by decide +kernel
theorem dL_alike_282 : decode cL_alike 282 = .ok (.goto 4, 3) := by decide +kernel
theorem dL_alike_285 : decode cL_alike 285 = .ok (.iconst 0, 1) := by decide +kernel
theorem dL_alike_286 : decode cL_alike 286 = .ok (.istore_n 3, 1) := by decide +kernel
theorem dL_alike_287 : decode cL_alike 287 = .ok (.iinc 5 1, 3) := by decide +kernel
theorem dL_alike_290 : decode cL_alike 290 = .ok (.goto (-78), 3) := by decide +kernel
theorem dL_alike_293 : decode cL_alike 293 = .ok (.iinc 4 1, 3) := by decide +kernel
theorem dL_alike_296 : decode cL_alike 296 = .ok (.goto (-148), 3) := by decide +kernel
theorem dL_alike_299 : decode cL_alike 299 = .ok (.iload_n 3, 1) := by decide +kernel
theorem dL_alike_300 : decode cL_alike 300 = .ok (.ireturn, 1) := by decide +kernel
theorem dL_holdsAll_0 : decode cL_holdsAll 0 = .ok (.aload_n 0, 1) := by decide +kernel
theorem dL_holdsAll_1 : decode cL_holdsAll 1 = .ok (.invokevirtual 145, 3) := by decide +kernel
theorem dL_holdsAll_4 : decode cL_holdsAll 4 = .ok (.istore_n 3, 1) := by decide +kernel
theorem dL_holdsAll_5 : decode cL_holdsAll 5 = .ok (.iconst 0, 1) := by decide +kernel
theorem dL_holdsAll_6 : decode cL_holdsAll 6 = .ok (.istore 4, 2) := by decide +kernel
theorem dL_holdsAll_8 : decode cL_holdsAll 8 = .ok (.iconst 1, 1) := by decide +kernel
theorem dL_holdsAll_9 : decode cL_holdsAll 9 = .ok (.istore 5, 2) := by decide +kernel
theorem dL_holdsAll_11 : decode cL_holdsAll 11 = .ok (.iconst 0, 1) := by decide +kernel
theorem dL_holdsAll_12 : decode cL_holdsAll 12 = .ok (.istore 6, 2) := by decide +kernel
theorem dL_holdsAll_14 : decode cL_holdsAll 14 = .ok (.iload 6, 2) := by decide +kernel
theorem dL_holdsAll_16 : decode cL_holdsAll 16 = .ok (.iconst 4, 1) := by decide +kernel
theorem dL_holdsAll_17 : decode cL_holdsAll 17 = .ok (.if_icmp .ge 308, 3) := by decide +kernel
theorem dL_holdsAll_20 : decode cL_holdsAll 20 = .ok (.iload 5, 2) := by decide +kernel
theorem dL_holdsAll_22 : decode cL_holdsAll 22 = .ok (.ifCond .eq 303, 3) := by decide +kernel
theorem dL_holdsAll_25 : decode cL_holdsAll 25 = .ok (.iconst 0, 1) := by decide +kernel
theorem dL_holdsAll_26 : decode cL_holdsAll 26 = .ok (.istore 7, 2) := by decide +kernel
theorem dL_holdsAll_28 : decode cL_holdsAll 28 = .ok (.iload_n 3, 1) := by decide +kernel
theorem dL_holdsAll_29 : decode cL_holdsAll 29 = .ok (.aload_n 0, 1) := by decide +kernel
theorem dL_holdsAll_30 : decode cL_holdsAll 30 = .ok (.iload 6, 2) := by decide +kernel
theorem dL_holdsAll_32 : decode cL_holdsAll 32 = .ok (.invokestatic 136, 3) := by decide +kernel
theorem dL_holdsAll_35 : decode cL_holdsAll 35 = .ok (.aload_n 0, 1) := by decide +kernel
theorem dL_holdsAll_36 : decode cL_holdsAll 36 = .ok (.iload 6, 2) := by decide +kernel
theorem dL_holdsAll_38 : decode cL_holdsAll 38 = .ok (.invokestatic 138, 3) := by decide +kernel
theorem dL_holdsAll_41 : decode cL_holdsAll 41 = .ok (.iadd, 1) := by decide +kernel
theorem dL_holdsAll_42 : decode cL_holdsAll 42 = .ok (.iadd, 1) := by decide +kernel
theorem dL_holdsAll_43 : decode cL_holdsAll 43 = .ok (.istore_n 3, 1) := by decide +kernel
theorem dL_holdsAll_44 : decode cL_holdsAll 44 = .ok (.iconst 0, 1) := by decide +kernel
theorem dL_holdsAll_45 : decode cL_holdsAll 45 = .ok (.istore 8, 2) := by decide +kernel
theorem dL_holdsAll_47 : decode cL_holdsAll 47 = .ok (.iload 8, 2) := by decide +kernel
theorem dL_holdsAll_49 : decode cL_holdsAll 49 = .ok (.aload_n 0, 1) := by decide +kernel
theorem dL_holdsAll_50 : decode cL_holdsAll 50 = .ok (.invokevirtual 85, 3) := by decide +kernel
theorem dL_holdsAll_53 : decode cL_holdsAll 53 = .ok (.if_icmp .ge 22, 3) := by decide +kernel
theorem dL_holdsAll_56 : decode cL_holdsAll 56 = .ok (.iload 7, 2) := by decide +kernel
theorem dL_holdsAll_58 : decode cL_holdsAll 58 = .ok (.aload_n 0, 1) := by decide +kernel
theorem dL_holdsAll_59 : decode cL_holdsAll 59 = .ok (.iload 6, 2) := by decide +kernel
theorem dL_holdsAll_61 : decode cL_holdsAll 61 = .ok (.iload 8, 2) := by decide +kernel
theorem dL_holdsAll_63 : decode cL_holdsAll 63 = .ok (.invokestatic 119, 3) := by decide +kernel
theorem dL_holdsAll_66 : decode cL_holdsAll 66 = .ok (.iadd, 1) := by decide +kernel
theorem dL_holdsAll_67 : decode cL_holdsAll 67 = .ok (.istore 7, 2) := by decide +kernel
theorem dL_holdsAll_69 : decode cL_holdsAll 69 = .ok (.iinc 8 1, 3) := by decide +kernel
theorem dL_holdsAll_72 : decode cL_holdsAll 72 = .ok (.goto (-25), 3) := by decide +kernel
theorem dL_holdsAll_75 : decode cL_holdsAll 75 = .ok (.iconst 0, 1) := by decide +kernel
theorem dL_holdsAll_76 : decode cL_holdsAll 76 = .ok (.istore 8, 2) := by decide +kernel
theorem dL_holdsAll_78 : decode cL_holdsAll 78 = .ok (.iload 8, 2) := by decide +kernel
theorem dL_holdsAll_80 : decode cL_holdsAll 80 = .ok (.aload_n 1, 1) := by decide +kernel
theorem dL_holdsAll_81 : decode cL_holdsAll 81 = .ok (.iload 6, 2) := by decide +kernel
theorem dL_holdsAll_83 : decode cL_holdsAll 83 = .ok (.iaload, 1) := by decide +kernel
theorem dL_holdsAll_84 : decode cL_holdsAll 84 = .ok (.if_icmp .ge 133, 3) := by decide +kernel
theorem dL_holdsAll_87 : decode cL_holdsAll 87 = .ok (.iload 5, 2) := by decide +kernel
theorem dL_holdsAll_89 : decode cL_holdsAll 89 = .ok (.ifCond .eq 128, 3) := by decide +kernel
theorem dL_holdsAll_92 : decode cL_holdsAll 92 = .ok (.aload_n 0, 1) := by decide +kernel
theorem dL_holdsAll_93 : decode cL_holdsAll 93 = .ok (.iload 6, 2) := by decide +kernel
theorem dL_holdsAll_95 : decode cL_holdsAll 95 = .ok (.sipush 1000, 3) := by decide +kernel
theorem dL_holdsAll_98 : decode cL_holdsAll 98 = .ok (.iload 8, 2) := by decide +kernel
theorem dL_holdsAll_100 : decode cL_holdsAll 100 = .ok (.iadd, 1) := by decide +kernel
theorem dL_holdsAll_101 : decode cL_holdsAll 101 = .ok (.invokestatic 130, 3) := by decide +kernel
theorem dL_holdsAll_104 : decode cL_holdsAll 104 = .ok (.istore 9, 2) := by decide +kernel
theorem dL_holdsAll_106 : decode cL_holdsAll 106 = .ok (.aload_n 0, 1) := by decide +kernel
theorem dL_holdsAll_107 : decode cL_holdsAll 107 = .ok (.iload 6, 2) := by decide +kernel
theorem dL_holdsAll_109 : decode cL_holdsAll 109 = .ok (.sipush 1000, 3) := by decide +kernel
theorem dL_holdsAll_112 : decode cL_holdsAll 112 = .ok (.iload 8, 2) := by decide +kernel
theorem dL_holdsAll_114 : decode cL_holdsAll 114 = .ok (.iadd, 1) := by decide +kernel
theorem dL_holdsAll_115 : decode cL_holdsAll 115 = .ok (.invokestatic 119, 3) := by decide +kernel
theorem dL_holdsAll_118 : decode cL_holdsAll 118 = .ok (.istore 10, 2) := by decide +kernel
theorem dL_holdsAll_120 : decode cL_holdsAll 120 = .ok (.iload 7, 2) := by decide +kernel
theorem dL_holdsAll_122 : decode cL_holdsAll 122 = .ok (.iload 9, 2) := by decide +kernel
theorem dL_holdsAll_124 : decode cL_holdsAll 124 = .ok (.iconst (-1), 1) := by decide +kernel
theorem dL_holdsAll_125 : decode cL_holdsAll 125 = .ok (.if_icmp .ne 7, 3) := by decide +kernel
theorem dL_holdsAll_128 : decode cL_holdsAll 128 = .ok (.iconst 1, 1) := by decide +kernel
theorem dL_holdsAll_129 : decode cL_holdsAll 129 = .ok (.goto 4, 3) := by decide +kernel
theorem dL_holdsAll_132 : decode cL_holdsAll 132 = .ok (.iconst 0, 1) := by decide +kernel
theorem dL_holdsAll_133 : decode cL_holdsAll 133 = .ok (.iadd, 1) := by decide +kernel
theorem dL_holdsAll_134 : decode cL_holdsAll 134 = .ok (.istore 7, 2) := by decide +kernel
theorem dL_holdsAll_136 : decode cL_holdsAll 136 = .ok (.iload 9, 2) := by decide +kernel
theorem dL_holdsAll_138 : decode cL_holdsAll 138 = .ok (.iconst (-1), 1) := by decide +kernel
theorem dL_holdsAll_139 : decode cL_holdsAll 139 = .ok (.if_icmp .lt 69, 3) := by decide +kernel
theorem dL_holdsAll_142 : decode cL_holdsAll 142 = .ok (.iload 9, 2) := by decide +kernel
theorem dL_holdsAll_144 : decode cL_holdsAll 144 = .ok (.aload_n 0, 1) := by decide +kernel
theorem dL_holdsAll_145 : decode cL_holdsAll 145 = .ok (.invokevirtual 85, 3) := by decide +kernel
theorem dL_holdsAll_148 : decode cL_holdsAll 148 = .ok (.if_icmp .ge 60, 3) := by decide +kernel
theorem dL_holdsAll_151 : decode cL_holdsAll 151 = .ok (.iload 9, 2) := by decide +kernel
theorem dL_holdsAll_153 : decode cL_holdsAll 153 = .ok (.iconst (-1), 1) := by decide +kernel
theorem dL_holdsAll_154 : decode cL_holdsAll 154 = .ok (.if_icmp .ne 12, 3) := by decide +kernel
theorem dL_holdsAll_157 : decode cL_holdsAll 157 = .ok (.iload 10, 2) := by decide +kernel
theorem dL_holdsAll_159 : decode cL_holdsAll 159 = .ok (.iconst 1, 1) := by decide +kernel
theorem dL_holdsAll_160 : decode cL_holdsAll 160 = .ok (.if_icmp .ne 48, 3) := by decide +kernel
theorem dL_holdsAll_163 : decode cL_holdsAll 163 = .ok (.goto 41, 3) := by decide +kernel
theorem dL_holdsAll_166 : decode cL_holdsAll 166 = .ok (.iload 10, 2) := by decide +kernel
theorem dL_holdsAll_168 : decode cL_holdsAll 168 = .ok (.aload_n 0, 1) := by decide +kernel
theorem dL_holdsAll_169 : decode cL_holdsAll 169 = .ok (.iload 6, 2) := by decide +kernel
theorem dL_holdsAll_171 : decode cL_holdsAll 171 = .ok (.iload 9, 2) := by decide +kernel
theorem dL_holdsAll_173 : decode cL_holdsAll 173 = .ok (.invokestatic 119, 3) := by decide +kernel
theorem dL_holdsAll_176 : decode cL_holdsAll 176 = .ok (.if_icmp .ne 32, 3) := by decide +kernel
theorem dL_holdsAll_179 : decode cL_holdsAll 179 = .ok (.aload_n 0, 1) := by decide +kernel
theorem dL_holdsAll_180 : decode cL_holdsAll 180 = .ok (.iload 6, 2) := by decide +kernel
theorem dL_holdsAll_182 : decode cL_holdsAll 182 = .ok (.iload 9, 2) := by decide +kernel
theorem dL_holdsAll_184 : decode cL_holdsAll 184 = .ok (.iconst 0, 1) := by decide +kernel
theorem dL_holdsAll_185 : decode cL_holdsAll 185 = .ok (.invokestatic 121, 3) := by decide +kernel
theorem dL_holdsAll_188 : decode cL_holdsAll 188 = .ok (.aload_n 0, 1) := by decide +kernel
theorem dL_holdsAll_189 : decode cL_holdsAll 189 = .ok (.iload 6, 2) := by decide +kernel
theorem dL_holdsAll_191 : decode cL_holdsAll 191 = .ok (.sipush 1000, 3) := by decide +kernel
theorem dL_holdsAll_194 : decode cL_holdsAll 194 = .ok (.iload 8, 2) := by decide +kernel
theorem dL_holdsAll_196 : decode cL_holdsAll 196 = .ok (.iadd, 1) := by decide +kernel
theorem dL_holdsAll_197 : decode cL_holdsAll 197 = .ok (.iconst 0, 1) := by decide +kernel
theorem dL_holdsAll_198 : decode cL_holdsAll 198 = .ok (.invokestatic 121, 3) := by decide +kernel
theorem dL_holdsAll_201 : decode cL_holdsAll 201 = .ok (.if_icmp .ne 7, 3) := by decide +kernel
theorem dL_holdsAll_204 : decode cL_holdsAll 204 = .ok (.iconst 1, 1) := by decide +kernel
theorem dL_holdsAll_205 : decode cL_holdsAll 205 = .ok (.goto 4, 3) := by decide +kernel
theorem dL_holdsAll_208 : decode cL_holdsAll 208 = .ok (.iconst 0, 1) := by decide +kernel
theorem dL_holdsAll_209 : decode cL_holdsAll 209 = .ok (.istore 5, 2) := by decide +kernel
theorem dL_holdsAll_211 : decode cL_holdsAll 211 = .ok (.iinc 8 1, 3) := by decide +kernel
theorem dL_holdsAll_214 : decode cL_holdsAll 214 = .ok (.goto (-136), 3) := by decide +kernel
theorem dL_holdsAll_217 : decode cL_holdsAll 217 = .ok (.iload 5, 2) := by decide +kernel
theorem dL_holdsAll_219 : decode cL_holdsAll 219 = .ok (.ifCond .eq 18, 3) := by decide +kernel
theorem dL_holdsAll_222 : decode cL_holdsAll 222 = .ok (.iload 7, 2) := by decide +kernel
theorem dL_holdsAll_224 : decode cL_holdsAll 224 = .ok (.aload_n 0, 1) := by decide +kernel
theorem dL_holdsAll_225 : decode cL_holdsAll 225 = .ok (.iload 6, 2) := by decide +kernel
theorem dL_holdsAll_227 : decode cL_holdsAll 227 = .ok (.invokestatic 117, 3) := by decide +kernel
theorem dL_holdsAll_230 : decode cL_holdsAll 230 = .ok (.if_icmp .ne 7, 3) := by decide +kernel
theorem dL_holdsAll_233 : decode cL_holdsAll 233 = .ok (.iconst 1, 1) := by decide +kernel
theorem dL_holdsAll_234 : decode cL_holdsAll 234 = .ok (.goto 4, 3) := by decide +kernel
theorem dL_holdsAll_237 : decode cL_holdsAll 237 = .ok (.iconst 0, 1) := by decide +kernel
theorem dL_holdsAll_238 : decode cL_holdsAll 238 = .ok (.istore 5, 2) := by decide +kernel
theorem dL_holdsAll_240 : decode cL_holdsAll 240 = .ok (.iconst 0, 1) := by decide +kernel
theorem dL_holdsAll_241 : decode cL_holdsAll 241 = .ok (.istore 8, 2) := by decide +kernel
theorem dL_holdsAll_243 : decode cL_holdsAll 243 = .ok (.iload 8, 2) := by decide +kernel
theorem dL_holdsAll_245 : decode cL_holdsAll 245 = .ok (.aload_n 0, 1) := by decide +kernel
theorem dL_holdsAll_246 : decode cL_holdsAll 246 = .ok (.iload 6, 2) := by decide +kernel
theorem dL_holdsAll_248 : decode cL_holdsAll 248 = .ok (.invokestatic 138, 3) := by decide +kernel
theorem dL_holdsAll_251 : decode cL_holdsAll 251 = .ok (.if_icmp .ge 68, 3) := by decide +kernel
theorem dL_holdsAll_254 : decode cL_holdsAll 254 = .ok (.iload 5, 2) := by decide +kernel
theorem dL_holdsAll_256 : decode cL_holdsAll 256 = .ok (.ifCond .eq 63, 3) := by decide +kernel
theorem dL_holdsAll_259 : decode cL_holdsAll 259 = .ok (.aload_n 0, 1) := by decide +kernel
theorem dL_holdsAll_260 : decode cL_holdsAll 260 = .ok (.iload 6, 2) := by decide +kernel
theorem dL_holdsAll_262 : decode cL_holdsAll 262 = .ok (.iload 8, 2) := by decide +kernel
theorem dL_holdsAll_264 : decode cL_holdsAll 264 = .ok (.invokestatic 140, 3) := by decide +kernel
theorem dL_holdsAll_267 : decode cL_holdsAll 267 = .ok (.istore 9, 2) := by decide +kernel
theorem dL_holdsAll_269 : decode cL_holdsAll 269 = .ok (.iload 9, 2) := by decide +kernel
theorem dL_holdsAll_271 : decode cL_holdsAll 271 = .ok (.ifCond .lt 39, 3) := by decide +kernel
theorem dL_holdsAll_274 : decode cL_holdsAll 274 = .ok (.iload 9, 2) := by decide +kernel
theorem dL_holdsAll_276 : decode cL_holdsAll 276 = .ok (.iconst 3, 1) := by decide +kernel
theorem dL_holdsAll_277 : decode cL_holdsAll 277 = .ok (.if_icmp .gt 33, 3) := by decide +kernel
theorem dL_holdsAll_280 : decode cL_holdsAll 280 = .ok (.aload_n 0, 1) := by decide +kernel
theorem dL_holdsAll_281 : decode cL_holdsAll 281 = .ok (.iload 6, 2) := by decide +kernel
theorem dL_holdsAll_283 : decode cL_holdsAll 283 = .ok (.iload 8, 2) := by decide +kernel
theorem dL_holdsAll_285 : decode cL_holdsAll 285 = .ok (.invokestatic 142, 3) := by decide +kernel
theorem dL_holdsAll_288 : decode cL_holdsAll 288 = .ok (.ifCond .lt 22, 3) := by decide +kernel
theorem dL_holdsAll_291 : decode cL_holdsAll 291 = .ok (.iload 9, 2) := by decide +kernel
theorem dL_holdsAll_293 : decode cL_holdsAll 293 = .ok (.iconst 3, 1) := by decide +kernel
theorem dL_holdsAll_294 : decode cL_holdsAll 294 = .ok (.if_icmp .ne 12, 3) := by decide +kernel
theorem dL_holdsAll_297 : decode cL_holdsAll 297 = .ok (.aload_n 0, 1) := by decide +kernel
theorem dL_holdsAll_298 : decode cL_holdsAll 298 = .ok (.invokevirtual 85, 3) := by decide +kernel
theorem dL_holdsAll_301 : decode cL_holdsAll 301 = .ok (.bipush 40, 2) := by decide +kernel
theorem dL_holdsAll_303 : decode cL_holdsAll 303 = .ok (.if_icmp .ne 7, 3) := by decide +kernel
theorem dL_holdsAll_306 : decode cL_holdsAll 306 = .ok (.iconst 1, 1) := by decide +kernel
theorem dL_holdsAll_307 : decode cL_holdsAll 307 = .ok (.goto 4, 3) := by decide +kernel
theorem dL_holdsAll_310 : decode cL_holdsAll 310 = .ok (.iconst 0, 1) := by decide +kernel
theorem dL_holdsAll_311 : decode cL_holdsAll 311 = .ok (.istore 5, 2) := by decide +kernel
theorem dL_holdsAll_313 : decode cL_holdsAll 313 = .ok (.iinc 8 1, 3) := by decide +kernel
theorem dL_holdsAll_316 : decode cL_holdsAll 316 = .ok (.goto (-73), 3) := by decide +kernel
theorem dL_holdsAll_319 : decode cL_holdsAll 319 = .ok (.iinc 6 1, 3) := by decide +kernel
theorem dL_holdsAll_322 : decode cL_holdsAll 322 = .ok (.goto (-308), 3) := by decide +kernel
theorem dL_holdsAll_325 : decode cL_holdsAll 325 = .ok (.iconst 0, 1) := by decide +kernel
theorem dL_holdsAll_326 : decode cL_holdsAll 326 = .ok (.istore 6, 2) := by decide +kernel
theorem dL_holdsAll_328 : decode cL_holdsAll 328 = .ok (.iload 6, 2) := by decide +kernel
theorem dL_holdsAll_330 : decode cL_holdsAll 330 = .ok (.aload_n 0, 1) := by decide +kernel
theorem dL_holdsAll_331 : decode cL_holdsAll 331 = .ok (.invokevirtual 85, 3) := by decide +kernel
theorem dL_holdsAll_334 : decode cL_holdsAll 334 = .ok (.if_icmp .ge 82, 3) := by decide +kernel
theorem dL_holdsAll_337 : decode cL_holdsAll 337 = .ok (.iload 5, 2) := by decide +kernel
theorem dL_holdsAll_339 : decode cL_holdsAll 339 = .ok (.ifCond .eq 77, 3) := by decide +kernel
theorem dL_holdsAll_342 : decode cL_holdsAll 342 = .ok (.iload 4, 2) := by decide +kernel
theorem dL_holdsAll_344 : decode cL_holdsAll 344 = .ok (.aload_n 0, 1) := by decide +kernel
theorem dL_holdsAll_345 : decode cL_holdsAll 345 = .ok (.iload 6, 2) := by decide +kernel
theorem dL_holdsAll_347 : decode cL_holdsAll 347 = .ok (.iconst 0, 1) := by decide +kernel
theorem dL_holdsAll_348 : decode cL_holdsAll 348 = .ok (.invokestatic 109, 3) := by decide +kernel
theorem dL_holdsAll_351 : decode cL_holdsAll 351 = .ok (.aload_n 0, 1) := by decide +kernel
theorem dL_holdsAll_352 : decode cL_holdsAll 352 = .ok (.iload 6, 2) := by decide +kernel
theorem dL_holdsAll_354 : decode cL_holdsAll 354 = .ok (.iconst 1, 1) := by decide +kernel
theorem dL_holdsAll_355 : decode cL_holdsAll 355 = .ok (.invokestatic 109, 3) := by decide +kernel
theorem dL_holdsAll_358 : decode cL_holdsAll 358 = .ok (.iadd, 1) := by decide +kernel
theorem dL_holdsAll_359 : decode cL_holdsAll 359 = .ok (.iadd, 1) := by decide +kernel
theorem dL_holdsAll_360 : decode cL_holdsAll 360 = .ok (.istore 4, 2) := by decide +kernel
theorem dL_holdsAll_362 : decode cL_holdsAll 362 = .ok (.aload_n 0, 1) := by decide +kernel
theorem dL_holdsAll_363 : decode cL_holdsAll 363 = .ok (.iload 6, 2) := by decide +kernel
theorem dL_holdsAll_365 : decode cL_holdsAll 365 = .ok (.iconst 0, 1) := by decide +kernel
theorem dL_holdsAll_366 : decode cL_holdsAll 366 = .ok (.invokestatic 107, 3) := by decide +kernel
theorem dL_holdsAll_369 : decode cL_holdsAll 369 = .ok (.ifCond .lt 38, 3) := by decide +kernel
theorem dL_holdsAll_372 : decode cL_holdsAll 372 = .ok (.aload_n 0, 1) := by decide +kernel
theorem dL_holdsAll_373 : decode cL_holdsAll 373 = .ok (.iload 6, 2) := by decide +kernel
theorem dL_holdsAll_375 : decode cL_holdsAll 375 = .ok (.iconst 0, 1) := by decide +kernel
theorem dL_holdsAll_376 : decode cL_holdsAll 376 = .ok (.invokestatic 107, 3) := by decide +kernel
theorem dL_holdsAll_379 : decode cL_holdsAll 379 = .ok (.iconst 2, 1) := by decide +kernel
theorem dL_holdsAll_380 : decode cL_holdsAll 380 = .ok (.if_icmp .gt 27, 3) := by decide +kernel
theorem dL_holdsAll_383 : decode cL_holdsAll 383 = .ok (.aload_n 0, 1) := by decide +kernel
theorem dL_holdsAll_384 : decode cL_holdsAll 384 = .ok (.iload 6, 2) := by decide +kernel
theorem dL_holdsAll_386 : decode cL_holdsAll 386 = .ok (.iconst 1, 1) := by decide +kernel
theorem dL_holdsAll_387 : decode cL_holdsAll 387 = .ok (.invokestatic 107, 3) := by decide +kernel
theorem dL_holdsAll_390 : decode cL_holdsAll 390 = .ok (.ifCond .lt 17, 3) := by decide +kernel
theorem dL_holdsAll_393 : decode cL_holdsAll 393 = .ok (.aload_n 0, 1) := by decide +kernel
theorem dL_holdsAll_394 : decode cL_holdsAll 394 = .ok (.iload 6, 2) := by decide +kernel
theorem dL_holdsAll_396 : decode cL_holdsAll 396 = .ok (.iconst 0, 1) := by decide +kernel
theorem dL_holdsAll_397 : decode cL_holdsAll 397 = .ok (.invokestatic 109, 3) := by decide +kernel
theorem dL_holdsAll_400 : decode cL_holdsAll 400 = .ok (.ifCond .lt 7, 3) := by decide +kernel
theorem dL_holdsAll_403 : decode cL_holdsAll 403 = .ok (.iconst 1, 1) := by decide +kernel
theorem dL_holdsAll_404 : decode cL_holdsAll 404 = .ok (.goto 4, 3) := by decide +kernel
theorem dL_holdsAll_407 : decode cL_holdsAll 407 = .ok (.iconst 0, 1) := by decide +kernel
theorem dL_holdsAll_408 : decode cL_holdsAll 408 = .ok (.istore 5, 2) := by decide +kernel
theorem dL_holdsAll_410 : decode cL_holdsAll 410 = .ok (.iinc 6 1, 3) := by decide +kernel
theorem dL_holdsAll_413 : decode cL_holdsAll 413 = .ok (.goto (-85), 3) := by decide +kernel
theorem dL_holdsAll_416 : decode cL_holdsAll 416 = .ok (.iload 5, 2) := by decide +kernel
theorem dL_holdsAll_418 : decode cL_holdsAll 418 = .ok (.ifCond .eq 17, 3) := by decide +kernel
theorem dL_holdsAll_421 : decode cL_holdsAll 421 = .ok (.iload_n 3, 1) := by decide +kernel
theorem dL_holdsAll_422 : decode cL_holdsAll 422 = .ok (.iload_n 2, 1) := by decide +kernel
theorem dL_holdsAll_423 : decode cL_holdsAll 423 = .ok (.if_icmp .ne 12, 3) := by decide +kernel
theorem dL_holdsAll_426 : decode cL_holdsAll 426 = .ok (.iload 4, 2) := by decide +kernel
theorem dL_holdsAll_428 : decode cL_holdsAll 428 = .ok (.ifCond .lt 7, 3) := by decide +kernel
theorem dL_holdsAll_431 : decode cL_holdsAll 431 = .ok (.iconst 1, 1) := by decide +kernel
theorem dL_holdsAll_432 : decode cL_holdsAll 432 = .ok (.goto 4, 3) := by decide +kernel
theorem dL_holdsAll_435 : decode cL_holdsAll 435 = .ok (.iconst 0, 1) := by decide +kernel
theorem dL_holdsAll_436 : decode cL_holdsAll 436 = .ok (.ireturn, 1) := by decide +kernel
theorem dL_fresh_0 : decode cL_fresh 0 = .ok (.iconst 0, 1) := by decide +kernel
theorem dL_fresh_1 : decode cL_fresh 1 = .ok (.istore_n 3, 1) := by decide +kernel
theorem dL_fresh_2 : decode cL_fresh 2 = .ok (.iconst 0, 1) := by decide +kernel
theorem dL_fresh_3 : decode cL_fresh 3 = .ok (.istore 4, 2) := by decide +kernel
theorem dL_fresh_5 : decode cL_fresh 5 = .ok (.iload 4, 2) := by decide +kernel
theorem dL_fresh_7 : decode cL_fresh 7 = .ok (.aload_n 1, 1) := by decide +kernel
theorem dL_fresh_8 : decode cL_fresh 8 = .ok (.iload_n 2, 1) := by decide +kernel
theorem dL_fresh_9 : decode cL_fresh 9 = .ok (.iaload, 1) := by decide +kernel
theorem dL_fresh_10 : decode cL_fresh 10 = .ok (.if_icmp .ge 32, 3) := by decide +kernel
theorem dL_fresh_13 : decode cL_fresh 13 = .ok (.iload_n 3, 1) := by decide +kernel
theorem dL_fresh_14 : decode cL_fresh 14 = .ok (.aload_n 0, 1) := by decide +kernel
theorem dL_fresh_15 : decode cL_fresh 15 = .ok (.iload_n 2, 1) := by decide +kernel
theorem dL_fresh_16 : decode cL_fresh 16 = .ok (.sipush 1000, 3) := by decide +kernel
theorem dL_fresh_19 : decode cL_fresh 19 = .ok (.iload 4, 2) := by decide +kernel
theorem dL_fresh_21 : decode cL_fresh 21 = .ok (.iadd, 1) := by decide +kernel
theorem dL_fresh_22 : decode cL_fresh 22 = .ok (.invokestatic 130, 3) := by decide +kernel
theorem dL_fresh_25 : decode cL_fresh 25 = .ok (.iconst (-1), 1) := by decide +kernel
theorem dL_fresh_26 : decode cL_fresh 26 = .ok (.if_icmp .ne 7, 3) := by decide +kernel
theorem dL_fresh_29 : decode cL_fresh 29 = .ok (.iconst 1, 1) := by decide +kernel
theorem dL_fresh_30 : decode cL_fresh 30 = .ok (.goto 4, 3) := by decide +kernel
theorem dL_fresh_33 : decode cL_fresh 33 = .ok (.iconst 0, 1) := by decide +kernel
theorem dL_fresh_34 : decode cL_fresh 34 = .ok (.iadd, 1) := by decide +kernel
theorem dL_fresh_35 : decode cL_fresh 35 = .ok (.istore_n 3, 1) := by decide +kernel
theorem dL_fresh_36 : decode cL_fresh 36 = .ok (.iinc 4 1, 3) := by decide +kernel
theorem dL_fresh_39 : decode cL_fresh 39 = .ok (.goto (-34), 3) := by decide +kernel
theorem dL_fresh_42 : decode cL_fresh 42 = .ok (.aload_n 0, 1) := by decide +kernel
theorem dL_fresh_43 : decode cL_fresh 43 = .ok (.iload_n 2, 1) := by decide +kernel
theorem dL_fresh_44 : decode cL_fresh 44 = .ok (.invokestatic 136, 3) := by decide +kernel
theorem dL_fresh_47 : decode cL_fresh 47 = .ok (.istore 4, 2) := by decide +kernel
theorem dL_fresh_49 : decode cL_fresh 49 = .ok (.iload 4, 2) := by decide +kernel
theorem dL_fresh_51 : decode cL_fresh 51 = .ok (.ifCond .ne 7, 3) := by decide +kernel
theorem dL_fresh_54 : decode cL_fresh 54 = .ok (.iconst 0, 1) := by decide +kernel
theorem dL_fresh_55 : decode cL_fresh 55 = .ok (.goto 10, 3) := by decide +kernel
theorem dL_fresh_58 : decode cL_fresh 58 = .ok (.aload_n 0, 1) := by decide +kernel
theorem dL_fresh_59 : decode cL_fresh 59 = .ok (.iload_n 2, 1) := by decide +kernel
theorem dL_fresh_60 : decode cL_fresh 60 = .ok (.bipush 100, 2) := by decide +kernel
theorem dL_fresh_62 : decode cL_fresh 62 = .ok (.invokestatic 133, 3) := by decide +kernel
theorem dL_fresh_65 : decode cL_fresh 65 = .ok (.istore 5, 2) := by decide +kernel
theorem dL_fresh_67 : decode cL_fresh 67 = .ok (.iconst 0, 1) := by decide +kernel
theorem dL_fresh_68 : decode cL_fresh 68 = .ok (.istore 6, 2) := by decide +kernel
theorem dL_fresh_70 : decode cL_fresh 70 = .ok (.iconst 0, 1) := by decide +kernel
theorem dL_fresh_71 : decode cL_fresh 71 = .ok (.istore 7, 2) := by decide +kernel
theorem dL_fresh_73 : decode cL_fresh 73 = .ok (.iload 7, 2) := by decide +kernel
theorem dL_fresh_75 : decode cL_fresh 75 = .ok (.aload_n 1, 1) := by decide +kernel
theorem dL_fresh_76 : decode cL_fresh 76 = .ok (.iload_n 2, 1) := by decide +kernel
theorem dL_fresh_77 : decode cL_fresh 77 = .ok (.iaload, 1) := by decide +kernel
theorem dL_fresh_78 : decode cL_fresh 78 = .ok (.if_icmp .ge 34, 3) := by decide +kernel
theorem dL_fresh_81 : decode cL_fresh 81 = .ok (.iload 6, 2) := by decide +kernel
theorem dL_fresh_83 : decode cL_fresh 83 = .ok (.aload_n 0, 1) := by decide +kernel
theorem dL_fresh_84 : decode cL_fresh 84 = .ok (.iload_n 2, 1) := by decide +kernel
theorem dL_fresh_85 : decode cL_fresh 85 = .ok (.sipush 1000, 3) := by decide +kernel
theorem dL_fresh_88 : decode cL_fresh 88 = .ok (.iload 7, 2) := by decide +kernel
theorem dL_fresh_90 : decode cL_fresh 90 = .ok (.iadd, 1) := by decide +kernel
theorem dL_fresh_91 : decode cL_fresh 91 = .ok (.invokestatic 130, 3) := by decide +kernel
theorem dL_fresh_94 : decode cL_fresh 94 = .ok (.iconst (-1), 1) := by decide +kernel
theorem dL_fresh_95 : decode cL_fresh 95 = .ok (.if_icmp .ne 7, 3) := by decide +kernel
theorem dL_fresh_98 : decode cL_fresh 98 = .ok (.iconst 1, 1) := by decide +kernel
theorem dL_fresh_99 : decode cL_fresh 99 = .ok (.goto 4, 3) := by decide +kernel
theorem dL_fresh_102 : decode cL_fresh 102 = .ok (.iconst 0, 1) := by decide +kernel
theorem dL_fresh_103 : decode cL_fresh 103 = .ok (.iadd, 1) := by decide +kernel
theorem dL_fresh_104 : decode cL_fresh 104 = .ok (.istore 6, 2) := by decide +kernel
theorem dL_fresh_106 : decode cL_fresh 106 = .ok (.iinc 7 1, 3) := by decide +kernel
theorem dL_fresh_109 : decode cL_fresh 109 = .ok (.goto (-36), 3) := by decide +kernel
theorem dL_fresh_112 : decode cL_fresh 112 = .ok (.iconst 0, 1) := by decide +kernel
theorem dL_fresh_113 : decode cL_fresh 113 = .ok (.istore 7, 2) := by decide +kernel
theorem dL_fresh_115 : decode cL_fresh 115 = .ok (.iconst 0, 1) := by decide +kernel
theorem dL_fresh_116 : decode cL_fresh 116 = .ok (.istore 8, 2) := by decide +kernel
theorem dL_fresh_118 : decode cL_fresh 118 = .ok (.iload 8, 2) := by decide +kernel
theorem dL_fresh_120 : decode cL_fresh 120 = .ok (.aload_n 0, 1) := by decide +kernel
theorem dL_fresh_121 : decode cL_fresh 121 = .ok (.invokevirtual 85, 3) := by decide +kernel
theorem dL_fresh_124 : decode cL_fresh 124 = .ok (.if_icmp .ge 29, 3) := by decide +kernel
theorem dL_fresh_127 : decode cL_fresh 127 = .ok (.iload 7, 2) := by decide +kernel
theorem dL_fresh_129 : decode cL_fresh 129 = .ok (.aload_n 0, 1) := by decide +kernel
theorem dL_fresh_130 : decode cL_fresh 130 = .ok (.iload 8, 2) := by decide +kernel
theorem dL_fresh_132 : decode cL_fresh 132 = .ok (.invokestatic 102, 3) := by decide +kernel
theorem dL_fresh_135 : decode cL_fresh 135 = .ok (.iload_n 2, 1) := by decide +kernel
theorem dL_fresh_136 : decode cL_fresh 136 = .ok (.if_icmp .ne 7, 3) := by decide +kernel
theorem dL_fresh_139 : decode cL_fresh 139 = .ok (.iconst 1, 1) := by decide +kernel
theorem dL_fresh_140 : decode cL_fresh 140 = .ok (.goto 4, 3) := by decide +kernel
theorem dL_fresh_143 : decode cL_fresh 143 = .ok (.iconst 0, 1) := by decide +kernel
theorem dL_fresh_144 : decode cL_fresh 144 = .ok (.iadd, 1) := by decide +kernel
theorem dL_fresh_145 : decode cL_fresh 145 = .ok (.istore 7, 2) := by decide +kernel
theorem dL_fresh_147 : decode cL_fresh 147 = .ok (.iinc 8 1, 3) := by decide +kernel
theorem dL_fresh_150 : decode cL_fresh 150 = .ok (.goto (-32), 3) := by decide +kernel
theorem dL_fresh_153 : decode cL_fresh 153 = .ok (.aload_n 0, 1) := by decide +kernel
theorem dL_fresh_154 : decode cL_fresh 154 = .ok (.iload_n 2, 1) := by decide +kernel
theorem dL_fresh_155 : decode cL_fresh 155 = .ok (.iconst 3, 1) := by decide +kernel
theorem dL_fresh_156 : decode cL_fresh 156 = .ok (.invokestatic 111, 3) := by decide +kernel
theorem dL_fresh_159 : decode cL_fresh 159 = .ok (.istore 8, 2) := by decide +kernel
theorem dL_fresh_161 : decode cL_fresh 161 = .ok (.iload 5, 2) := by decide +kernel
theorem dL_fresh_163 : decode cL_fresh 163 = .ok (.ifCond .lt 73, 3) := by decide +kernel
theorem dL_fresh_166 : decode cL_fresh 166 = .ok (.iload 6, 2) := by decide +kernel
theorem dL_fresh_168 : decode cL_fresh 168 = .ok (.iload_n 3, 1) := by decide +kernel
theorem dL_fresh_169 : decode cL_fresh 169 = .ok (.if_icmp .gt 67, 3) := by decide +kernel
theorem dL_fresh_172 : decode cL_fresh 172 = .ok (.aload_n 0, 1) := by decide +kernel
theorem dL_fresh_173 : decode cL_fresh 173 = .ok (.iload_n 2, 1) := by decide +kernel
theorem dL_fresh_174 : decode cL_fresh 174 = .ok (.invokestatic 136, 3) := by decide +kernel
theorem dL_fresh_177 : decode cL_fresh 177 = .ok (.ifCond .ne 59, 3) := by decide +kernel
theorem dL_fresh_180 : decode cL_fresh 180 = .ok (.iload 8, 2) := by decide +kernel
theorem dL_fresh_182 : decode cL_fresh 182 = .ok (.ifCond .lt 54, 3) := by decide +kernel
theorem dL_fresh_185 : decode cL_fresh 185 = .ok (.aload_n 0, 1) := by decide +kernel
theorem dL_fresh_186 : decode cL_fresh 186 = .ok (.iload_n 2, 1) := by decide +kernel
theorem dL_fresh_187 : decode cL_fresh 187 = .ok (.invokestatic 114, 3) := by decide +kernel
theorem dL_fresh_190 : decode cL_fresh 190 = .ok (.iload 6, 2) := by decide +kernel
theorem dL_fresh_192 : decode cL_fresh 192 = .ok (.iload 7, 2) := by decide +kernel
theorem dL_fresh_194 : decode cL_fresh 194 = .ok (.iconst 3, 1) := by decide +kernel
theorem dL_fresh_195 : decode cL_fresh 195 = .ok (.if_icmp .ge 8, 3) := by decide +kernel
theorem dL_fresh_198 : decode cL_fresh 198 = .ok (.iload 7, 2) := by decide +kernel
theorem dL_fresh_200 : decode cL_fresh 200 = .ok (.goto 4, 3) := by decide +kernel
theorem dL_fresh_203 : decode cL_fresh 203 = .ok (.iconst 3, 1) := by decide +kernel
theorem dL_fresh_204 : decode cL_fresh 204 = .ok (.iadd, 1) := by decide +kernel
theorem dL_fresh_205 : decode cL_fresh 205 = .ok (.if_icmp .ne 31, 3) := by decide +kernel
theorem dL_fresh_208 : decode cL_fresh 208 = .ok (.aload_n 0, 1) := by decide +kernel
theorem dL_fresh_209 : decode cL_fresh 209 = .ok (.iload_n 2, 1) := by decide +kernel
theorem dL_fresh_210 : decode cL_fresh 210 = .ok (.bipush 40, 2) := by decide +kernel
theorem dL_fresh_212 : decode cL_fresh 212 = .ok (.invokestatic 111, 3) := by decide +kernel
theorem dL_fresh_215 : decode cL_fresh 215 = .ok (.iconst 3, 1) := by decide +kernel
theorem dL_fresh_216 : decode cL_fresh 216 = .ok (.if_icmp .ne 20, 3) := by decide +kernel
theorem dL_fresh_219 : decode cL_fresh 219 = .ok (.aload_n 0, 1) := by decide +kernel
theorem dL_fresh_220 : decode cL_fresh 220 = .ok (.iload_n 2, 1) := by decide +kernel
theorem dL_fresh_221 : decode cL_fresh 221 = .ok (.invokestatic 114, 3) := by decide +kernel
theorem dL_fresh_224 : decode cL_fresh 224 = .ok (.iload 6, 2) := by decide +kernel
theorem dL_fresh_226 : decode cL_fresh 226 = .ok (.iload 7, 2) := by decide +kernel
theorem dL_fresh_228 : decode cL_fresh 228 = .ok (.iadd, 1) := by decide +kernel
theorem dL_fresh_229 : decode cL_fresh 229 = .ok (.if_icmp .ne 7, 3) := by decide +kernel
theorem dL_fresh_232 : decode cL_fresh 232 = .ok (.iconst 1, 1) := by decide +kernel
theorem dL_fresh_233 : decode cL_fresh 233 = .ok (.goto 4, 3) := by decide +kernel
theorem dL_fresh_236 : decode cL_fresh 236 = .ok (.iconst 0, 1) := by decide +kernel
theorem dL_fresh_237 : decode cL_fresh 237 = .ok (.istore 9, 2) := by decide +kernel
theorem dL_fresh_239 : decode cL_fresh 239 = .ok (.iconst 0, 1) := by decide +kernel
theorem dL_fresh_240 : decode cL_fresh 240 = .ok (.istore 10, 2) := by decide +kernel
theorem dL_fresh_242 : decode cL_fresh 242 = .ok (.iload 10, 2) := by decide +kernel
theorem dL_fresh_244 : decode cL_fresh 244 = .ok (.aload_n 0, 1) := by decide +kernel
theorem dL_fresh_245 : decode cL_fresh 245 = .ok (.invokevirtual 85, 3) := by decide +kernel
theorem dL_fresh_248 : decode cL_fresh 248 = .ok (.if_icmp .ge 208, 3) := by decide +kernel
theorem dL_fresh_251 : decode cL_fresh 251 = .ok (.iload 9, 2) := by decide +kernel
theorem dL_fresh_253 : decode cL_fresh 253 = .ok (.ifCond .eq 203, 3) := by decide +kernel
theorem dL_fresh_256 : decode cL_fresh 256 = .ok (.aload_n 0, 1) := by decide +kernel
theorem dL_fresh_257 : decode cL_fresh 257 = .ok (.iload 10, 2) := by decide +kernel
theorem dL_fresh_259 : decode cL_fresh 259 = .ok (.invokestatic 102, 3) := by decide +kernel
theorem dL_fresh_262 : decode cL_fresh 262 = .ok (.iload_n 2, 1) := by decide +kernel
theorem dL_fresh_263 : decode cL_fresh 263 = .ok (.if_icmp .ne 7, 3) := by decide +kernel
theorem dL_fresh_266 : decode cL_fresh 266 = .ok (.iconst 1, 1) := by decide +kernel
theorem dL_fresh_267 : decode cL_fresh 267 = .ok (.goto 4, 3) := by decide +kernel
theorem dL_fresh_270 : decode cL_fresh 270 = .ok (.iconst 0, 1) := by decide +kernel
theorem dL_fresh_271 : decode cL_fresh 271 = .ok (.istore 11, 2) := by decide +kernel
theorem dL_fresh_273 : decode cL_fresh 273 = .ok (.aload_n 0, 1) := by decide +kernel
theorem dL_fresh_274 : decode cL_fresh 274 = .ok (.iload_n 2, 1) := by decide +kernel
theorem dL_fresh_275 : decode cL_fresh 275 = .ok (.iload 10, 2) := by decide +kernel
theorem dL_fresh_277 : decode cL_fresh 277 = .ok (.invokestatic 119, 3) := by decide +kernel
theorem dL_fresh_280 : decode cL_fresh 280 = .ok (.iload 11, 2) := by decide +kernel
theorem dL_fresh_282 : decode cL_fresh 282 = .ok (.ifCond .eq 7, 3) := by decide +kernel
theorem dL_fresh_285 : decode cL_fresh 285 = .ok (.iconst 1, 1) := by decide +kernel
theorem dL_fresh_286 : decode cL_fresh 286 = .ok (.goto 4, 3) := by decide +kernel
theorem dL_fresh_289 : decode cL_fresh 289 = .ok (.iconst 0, 1) := by decide +kernel
theorem dL_fresh_290 : decode cL_fresh 290 = .ok (.if_icmp .ne 48, 3) := by decide +kernel
theorem dL_fresh_293 : decode cL_fresh 293 = .ok (.iload 11, 2) := by decide +kernel
theorem dL_fresh_295 : decode cL_fresh 295 = .ok (.ifCond .eq 39, 3) := by decide +kernel
theorem dL_fresh_298 : decode cL_fresh 298 = .ok (.aload_n 0, 1) := by decide +kernel
theorem dL_fresh_299 : decode cL_fresh 299 = .ok (.iload_n 2, 1) := by decide +kernel
theorem dL_fresh_300 : decode cL_fresh 300 = .ok (.iload 10, 2) := by decide +kernel
theorem dL_fresh_302 : decode cL_fresh 302 = .ok (.iconst 0, 1) := by decide +kernel
theorem dL_fresh_303 : decode cL_fresh 303 = .ok (.invokestatic 121, 3) := by decide +kernel
theorem dL_fresh_306 : decode cL_fresh 306 = .ok (.aload_n 0, 1) := by decide +kernel
theorem dL_fresh_307 : decode cL_fresh 307 = .ok (.iload 10, 2) := by decide +kernel
theorem dL_fresh_309 : decode cL_fresh 309 = .ok (.iconst 0, 1) := by decide +kernel
theorem dL_fresh_310 : decode cL_fresh 310 = .ok (.invokestatic 107, 3) := by decide +kernel
theorem dL_fresh_313 : decode cL_fresh 313 = .ok (.if_icmp .ne 25, 3) := by decide +kernel
theorem dL_fresh_316 : decode cL_fresh 316 = .ok (.aload_n 0, 1) := by decide +kernel
theorem dL_fresh_317 : decode cL_fresh 317 = .ok (.iload_n 2, 1) := by decide +kernel
theorem dL_fresh_318 : decode cL_fresh 318 = .ok (.iload 10, 2) := by decide +kernel
theorem dL_fresh_320 : decode cL_fresh 320 = .ok (.iconst 1, 1) := by decide +kernel
theorem dL_fresh_321 : decode cL_fresh 321 = .ok (.invokestatic 121, 3) := by decide +kernel
theorem dL_fresh_324 : decode cL_fresh 324 = .ok (.aload_n 0, 1) := by decide +kernel
theorem dL_fresh_325 : decode cL_fresh 325 = .ok (.iload 10, 2) := by decide +kernel
theorem dL_fresh_327 : decode cL_fresh 327 = .ok (.iconst 1, 1) := by decide +kernel
theorem dL_fresh_328 : decode cL_fresh 328 = .ok (.invokestatic 107, 3) := by decide +kernel
theorem dL_fresh_331 : decode cL_fresh 331 = .ok (.if_icmp .ne 7, 3) := by decide +kernel
theorem dL_fresh_334 : decode cL_fresh 334 = .ok (.iconst 1, 1) := by decide +kernel
theorem dL_fresh_335 : decode cL_fresh 335 = .ok (.goto 4, 3) := by decide +kernel
theorem dL_fresh_338 : decode cL_fresh 338 = .ok (.iconst 0, 1) := by decide +kernel
theorem dL_fresh_339 : decode cL_fresh 339 = .ok (.istore 9, 2) := by decide +kernel
theorem dL_fresh_341 : decode cL_fresh 341 = .ok (.aload_n 0, 1) := by decide +kernel
theorem dL_fresh_342 : decode cL_fresh 342 = .ok (.iload 10, 2) := by decide +kernel
theorem dL_fresh_344 : decode cL_fresh 344 = .ok (.iconst 0, 1) := by decide +kernel
theorem dL_fresh_345 : decode cL_fresh 345 = .ok (.invokestatic 107, 3) := by decide +kernel
theorem dL_fresh_348 : decode cL_fresh 348 = .ok (.istore 12, 2) := by decide +kernel
theorem dL_fresh_350 : decode cL_fresh 350 = .ok (.iload 9, 2) := by decide +kernel
theorem dL_fresh_352 : decode cL_fresh 352 = .ok (.ifCond .eq 98, 3) := by decide +kernel
theorem dL_fresh_355 : decode cL_fresh 355 = .ok (.iload 11, 2) := by decide +kernel
theorem dL_fresh_357 : decode cL_fresh 357 = .ok (.ifCond .eq 93, 3) := by decide +kernel
theorem dL_fresh_360 : decode cL_fresh 360 = .ok (.iload 12, 2) := by decide +kernel
theorem dL_fresh_362 : decode cL_fresh 362 = .ok (.iconst 2, 1) := by decide +kernel
theorem dL_fresh_363 : decode cL_fresh 363 = .ok (.if_icmp .ge 87, 3) := by decide +kernel
theorem dL_fresh_366 : decode cL_fresh 366 = .ok (.aload_n 0, 1) := by decide +kernel
theorem dL_fresh_367 : decode cL_fresh 367 = .ok (.iload_n 2, 1) := by decide +kernel
theorem dL_fresh_368 : decode cL_fresh 368 = .ok (.iload 10, 2) := by decide +kernel
theorem dL_fresh_370 : decode cL_fresh 370 = .ok (.iconst 0, 1) := by decide +kernel
theorem dL_fresh_371 : decode cL_fresh 371 = .ok (.iload 12, 2) := by decide +kernel
theorem dL_fresh_373 : decode cL_fresh 373 = .ok (.iconst 1, 1) := by decide +kernel
theorem dL_fresh_374 : decode cL_fresh 374 = .ok (.iadd, 1) := by decide +kernel
theorem dL_fresh_375 : decode cL_fresh 375 = .ok (.invokestatic 123, 3) := by decide +kernel
theorem dL_fresh_378 : decode cL_fresh 378 = .ok (.iconst 1, 1) := by decide +kernel
theorem dL_fresh_379 : decode cL_fresh 379 = .ok (.if_icmp .ne 68, 3) := by decide +kernel
theorem dL_fresh_382 : decode cL_fresh 382 = .ok (.aload_n 0, 1) := by decide +kernel
theorem dL_fresh_383 : decode cL_fresh 383 = .ok (.iload_n 2, 1) := by decide +kernel
theorem dL_fresh_384 : decode cL_fresh 384 = .ok (.bipush 9, 2) := by decide +kernel
theorem dL_fresh_386 : decode cL_fresh 386 = .ok (.invokestatic 133, 3) := by decide +kernel
theorem dL_fresh_389 : decode cL_fresh 389 = .ok (.iconst 1, 1) := by decide +kernel
theorem dL_fresh_390 : decode cL_fresh 390 = .ok (.if_icmp .ne 57, 3) := by decide +kernel
theorem dL_fresh_393 : decode cL_fresh 393 = .ok (.aload_n 0, 1) := by decide +kernel
theorem dL_fresh_394 : decode cL_fresh 394 = .ok (.iload 10, 2) := by decide +kernel
theorem dL_fresh_396 : decode cL_fresh 396 = .ok (.iconst 0, 1) := by decide +kernel
theorem dL_fresh_397 : decode cL_fresh 397 = .ok (.invokestatic 107, 3) := by decide +kernel
theorem dL_fresh_400 : decode cL_fresh 400 = .ok (.iload 12, 2) := by decide +kernel
theorem dL_fresh_402 : decode cL_fresh 402 = .ok (.iconst 1, 1) := by decide +kernel
theorem dL_fresh_403 : decode cL_fresh 403 = .ok (.iadd, 1) := by decide +kernel
theorem dL_fresh_404 : decode cL_fresh 404 = .ok (.if_icmp .ne 43, 3) := by decide +kernel
theorem dL_fresh_407 : decode cL_fresh 407 = .ok (.aload_n 0, 1) := by decide +kernel
theorem dL_fresh_408 : decode cL_fresh 408 = .ok (.iload_n 2, 1) := by decide +kernel
theorem dL_fresh_409 : decode cL_fresh 409 = .ok (.iload 10, 2) := by decide +kernel
theorem dL_fresh_411 : decode cL_fresh 411 = .ok (.iconst 1, 1) := by decide +kernel
theorem dL_fresh_412 : decode cL_fresh 412 = .ok (.bipush 77, 2) := by decide +kernel
theorem dL_fresh_414 : decode cL_fresh 414 = .ok (.invokestatic 123, 3) := by decide +kernel
theorem dL_fresh_417 : decode cL_fresh 417 = .ok (.iconst 1, 1) := by decide +kernel
theorem dL_fresh_418 : decode cL_fresh 418 = .ok (.if_icmp .ne 29, 3) := by decide +kernel
theorem dL_fresh_421 : decode cL_fresh 421 = .ok (.aload_n 0, 1) := by decide +kernel
theorem dL_fresh_422 : decode cL_fresh 422 = .ok (.iload_n 2, 1) := by decide +kernel
theorem dL_fresh_423 : decode cL_fresh 423 = .ok (.iconst 1, 1) := by decide +kernel
theorem dL_fresh_424 : decode cL_fresh 424 = .ok (.invokestatic 133, 3) := by decide +kernel
theorem dL_fresh_427 : decode cL_fresh 427 = .ok (.iconst 1, 1) := by decide +kernel
theorem dL_fresh_428 : decode cL_fresh 428 = .ok (.if_icmp .ne 19, 3) := by decide +kernel
theorem dL_fresh_431 : decode cL_fresh 431 = .ok (.aload_n 0, 1) := by decide +kernel
theorem dL_fresh_432 : decode cL_fresh 432 = .ok (.iload 10, 2) := by decide +kernel
theorem dL_fresh_434 : decode cL_fresh 434 = .ok (.iconst 1, 1) := by decide +kernel
theorem dL_fresh_435 : decode cL_fresh 435 = .ok (.invokestatic 107, 3) := by decide +kernel
theorem dL_fresh_438 : decode cL_fresh 438 = .ok (.bipush 77, 2) := by decide +kernel
theorem dL_fresh_440 : decode cL_fresh 440 = .ok (.if_icmp .ne 7, 3) := by decide +kernel
theorem dL_fresh_443 : decode cL_fresh 443 = .ok (.iconst 1, 1) := by decide +kernel
theorem dL_fresh_444 : decode cL_fresh 444 = .ok (.goto 4, 3) := by decide +kernel
theorem dL_fresh_447 : decode cL_fresh 447 = .ok (.iconst 0, 1) := by decide +kernel
theorem dL_fresh_448 : decode cL_fresh 448 = .ok (.istore 9, 2) := by decide +kernel
theorem dL_fresh_450 : decode cL_fresh 450 = .ok (.iinc 10 1, 3) := by decide +kernel
theorem dL_fresh_453 : decode cL_fresh 453 = .ok (.goto (-211), 3) := by decide +kernel
theorem dL_fresh_456 : decode cL_fresh 456 = .ok (.iload 9, 2) := by decide +kernel
theorem dL_fresh_458 : decode cL_fresh 458 = .ok (.ifCond .eq 19, 3) := by decide +kernel
theorem dL_fresh_461 : decode cL_fresh 461 = .ok (.aload_n 0, 1) := by decide +kernel
theorem dL_fresh_462 : decode cL_fresh 462 = .ok (.iload_n 2, 1) := by decide +kernel
theorem dL_fresh_463 : decode cL_fresh 463 = .ok (.iload 8, 2) := by decide +kernel
theorem dL_fresh_465 : decode cL_fresh 465 = .ok (.invokestatic 111, 3) := by decide +kernel
theorem dL_fresh_468 : decode cL_fresh 468 = .ok (.bipush 40, 2) := by decide +kernel
theorem dL_fresh_470 : decode cL_fresh 470 = .ok (.if_icmp .ne 7, 3) := by decide +kernel
theorem dL_fresh_473 : decode cL_fresh 473 = .ok (.iconst 1, 1) := by decide +kernel
theorem dL_fresh_474 : decode cL_fresh 474 = .ok (.goto 4, 3) := by decide +kernel
theorem dL_fresh_477 : decode cL_fresh 477 = .ok (.iconst 0, 1) := by decide +kernel
theorem dL_fresh_478 : decode cL_fresh 478 = .ok (.ireturn, 1) := by decide +kernel
