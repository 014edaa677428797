theorem dX0_init_0 : decode cX0_init 0 = .ok (.aload_n 0, 1) := by decide +kernel
theorem dX0_init_1 : decode cX0_init 1 = .ok (.invokespecial 3, 3) := by decide +kernel
theorem dX0_init_4 : decode cX0_init 4 = .ok (.aload_n 0, 1) := by decide +kernel
theorem dX0_init_5 : decode cX0_init 5 = .ok (.iconst (-1), 1) := by decide +kernel
theorem dX0_init_6 : decode cX0_init 6 = .ok (.putfield 9, 3) := by decide +kernel
theorem dX0_init_9 : decode cX0_init 9 = .ok (.aload_n 0, 1) := by decide +kernel
theorem dX0_init_10 : decode cX0_init 10 = .ok (.iload_n 1, 1) := by decide +kernel
theorem dX0_init_11 : decode cX0_init 11 = .ok (.putfield 15, 3) := by decide +kernel
theorem dX0_init_14 : decode cX0_init 14 = .ok (.aload_n 0, 1) := by decide +kernel
theorem dX0_init_15 : decode cX0_init 15 = .ok (.iload_n 2, 1) := by decide +kernel
theorem dX0_init_16 : decode cX0_init 16 = .ok (.putfield 18, 3) := by decide +kernel
theorem dX0_init_19 : decode cX0_init 19 = .ok (.aload_n 0, 1) := by decide +kernel
theorem dX0_init_20 : decode cX0_init 20 = .ok (.iload_n 3, 1) := by decide +kernel
theorem dX0_init_21 : decode cX0_init 21 = .ok (.putfield 21, 3) := by decide +kernel
theorem dX0_init_24 : decode cX0_init 24 = .ok (.aload_n 0, 1) := by decide +kernel
theorem dX0_init_25 : decode cX0_init 25 = .ok (.iload 4, 2) := by decide +kernel
theorem dX0_init_27 : decode cX0_init 27 = .ok (.putfield 24, 3) := by decide +kernel
theorem dX0_init_30 : decode cX0_init 30 = .ok (.return_, 1) := by decide +kernel
theorem dX1_init_0 : decode cX1_init 0 = .ok (.aload_n 0, 1) := by decide +kernel
theorem dX1_init_1 : decode cX1_init 1 = .ok (.invokespecial 3, 3) := by decide +kernel
theorem dX1_init_4 : decode cX1_init 4 = .ok (.aload_n 0, 1) := by decide +kernel
theorem dX1_init_5 : decode cX1_init 5 = .ok (.bipush 10, 2) := by decide +kernel
theorem dX1_init_7 : decode cX1_init 7 = .ok (.putfield 9, 3) := by decide +kernel
theorem dX1_init_10 : decode cX1_init 10 = .ok (.aload_n 0, 1) := by decide +kernel
theorem dX1_init_11 : decode cX1_init 11 = .ok (.bipush 40, 2) := by decide +kernel
theorem dX1_init_13 : decode cX1_init 13 = .ok (.anewarray 15, 3) := by decide +kernel
theorem dX1_init_16 : decode cX1_init 16 = .ok (.putfield 17, 3) := by decide +kernel
theorem dX1_init_19 : decode cX1_init 19 = .ok (.aload_n 0, 1) := by decide +kernel
theorem dX1_init_20 : decode cX1_init 20 = .ok (.bipush 40, 2) := by decide +kernel
theorem dX1_init_22 : decode cX1_init 22 = .ok (.newarray .boolean, 2) := by decide +kernel
theorem dX1_init_24 : decode cX1_init 24 = .ok (.putfield 21, 3) := by decide +kernel
theorem dX1_init_27 : decode cX1_init 27 = .ok (.aload_n 0, 1) := by decide +kernel
theorem dX1_init_28 : decode cX1_init 28 = .ok (.iconst 0, 1) := by decide +kernel
theorem dX1_init_29 : decode cX1_init 29 = .ok (.putfield 25, 3) := by decide +kernel
theorem dX1_init_32 : decode cX1_init 32 = .ok (.aload_n 0, 1) := by decide +kernel
theorem dX1_init_33 : decode cX1_init 33 = .ok (.new 28, 3) := by decide +kernel
theorem dX1_init_36 : decode cX1_init 36 = .ok (.dup, 1) := by decide +kernel
theorem dX1_init_37 : decode cX1_init 37 = .ok (.invokespecial 30, 3) := by decide +kernel
theorem dX1_init_40 : decode cX1_init 40 = .ok (.putfield 31, 3) := by decide +kernel
theorem dX1_init_43 : decode cX1_init 43 = .ok (.aload_n 0, 1) := by decide +kernel
theorem dX1_init_44 : decode cX1_init 44 = .ok (.iconst 0, 1) := by decide +kernel
theorem dX1_init_45 : decode cX1_init 45 = .ok (.putfield 35, 3) := by decide +kernel
theorem dX1_init_48 : decode cX1_init 48 = .ok (.aload_n 0, 1) := by decide +kernel
theorem dX1_init_49 : decode cX1_init 49 = .ok (.new 28, 3) := by decide +kernel
theorem dX1_init_52 : decode cX1_init 52 = .ok (.dup, 1) := by decide +kernel
theorem dX1_init_53 : decode cX1_init 53 = .ok (.invokespecial 30, 3) := by decide +kernel
theorem dX1_init_56 : decode cX1_init 56 = .ok (.putfield 38, 3) := by decide +kernel
theorem dX1_init_59 : decode cX1_init 59 = .ok (.aload_n 0, 1) := by decide +kernel
theorem dX1_init_60 : decode cX1_init 60 = .ok (.iconst 0, 1) := by decide +kernel
theorem dX1_init_61 : decode cX1_init 61 = .ok (.putfield 41, 3) := by decide +kernel
theorem dX1_init_64 : decode cX1_init 64 = .ok (.aload_n 0, 1) := by decide +kernel
theorem dX1_init_65 : decode cX1_init 65 = .ok (.new 28, 3) := by decide +kernel
theorem dX1_init_68 : decode cX1_init 68 = .ok (.dup, 1) := by decide +kernel
theorem dX1_init_69 : decode cX1_init 69 = .ok (.invokespecial 30, 3) := by decide +kernel
theorem dX1_init_72 : decode cX1_init 72 = .ok (.putfield 44, 3) := by decide +kernel
theorem dX1_init_75 : decode cX1_init 75 = .ok (.return_, 1) := by decide +kernel
theorem dX1_madeJob_0 : decode cX1_madeJob 0 = .ok (.iload_n 1, 1) := by decide +kernel
theorem dX1_madeJob_1 : decode cX1_madeJob 1 = .ok (.sipush 1000, 3) := by decide +kernel
theorem dX1_madeJob_4 : decode cX1_madeJob 4 = .ok (.if_icmp .lt 18, 3) := by decide +kernel
theorem dX1_madeJob_7 : decode cX1_madeJob 7 = .ok (.iload_n 1, 1) := by decide +kernel
theorem dX1_madeJob_8 : decode cX1_madeJob 8 = .ok (.sipush 1000, 3) := by decide +kernel
theorem dX1_madeJob_11 : decode cX1_madeJob 11 = .ok (.isub, 1) := by decide +kernel
theorem dX1_madeJob_12 : decode cX1_madeJob 12 = .ok (.aload_n 0, 1) := by decide +kernel
theorem dX1_madeJob_13 : decode cX1_madeJob 13 = .ok (.getfield 31, 3) := by decide +kernel
theorem dX1_madeJob_16 : decode cX1_madeJob 16 = .ok (.invokevirtual 47, 3) := by decide +kernel
theorem dX1_madeJob_19 : decode cX1_madeJob 19 = .ok (.if_icmp .lt 5, 3) := by decide +kernel
theorem dX1_madeJob_22 : decode cX1_madeJob 22 = .ok (.aconst_null, 1) := by decide +kernel
theorem dX1_madeJob_23 : decode cX1_madeJob 23 = .ok (.areturn, 1) := by decide +kernel
theorem dX1_madeJob_24 : decode cX1_madeJob 24 = .ok (.aload_n 0, 1) := by decide +kernel
theorem dX1_madeJob_25 : decode cX1_madeJob 25 = .ok (.getfield 31, 3) := by decide +kernel
theorem dX1_madeJob_28 : decode cX1_madeJob 28 = .ok (.iload_n 1, 1) := by decide +kernel
theorem dX1_madeJob_29 : decode cX1_madeJob 29 = .ok (.sipush 1000, 3) := by decide +kernel
theorem dX1_madeJob_32 : decode cX1_madeJob 32 = .ok (.isub, 1) := by decide +kernel
theorem dX1_madeJob_33 : decode cX1_madeJob 33 = .ok (.invokevirtual 51, 3) := by decide +kernel
theorem dX1_madeJob_36 : decode cX1_madeJob 36 = .ok (.checkcast 55, 3) := by decide +kernel
theorem dX1_madeJob_39 : decode cX1_madeJob 39 = .ok (.areturn, 1) := by decide +kernel
theorem dX1_centralNumber_0 : decode cX1_centralNumber 0 = .ok (.aload_n 0, 1) := by decide +kernel
theorem dX1_centralNumber_1 : decode cX1_centralNumber 1 = .ok (.iload_n 1, 1) := by decide +kernel
theorem dX1_centralNumber_2 : decode cX1_centralNumber 2 = .ok (.invokevirtual 57, 3) := by decide +kernel
theorem dX1_centralNumber_5 : decode cX1_centralNumber 5 = .ok (.astore_n 2, 1) := by decide +kernel
theorem dX1_centralNumber_6 : decode cX1_centralNumber 6 = .ok (.aload_n 2, 1) := by decide +kernel
theorem dX1_centralNumber_7 : decode cX1_centralNumber 7 = .ok (.ifnonnull 7, 3) := by decide +kernel
theorem dX1_centralNumber_10 : decode cX1_centralNumber 10 = .ok (.iload_n 1, 1) := by decide +kernel
theorem dX1_centralNumber_11 : decode cX1_centralNumber 11 = .ok (.goto 7, 3) := by decide +kernel
theorem dX1_centralNumber_14 : decode cX1_centralNumber 14 = .ok (.aload_n 2, 1) := by decide +kernel
theorem dX1_centralNumber_15 : decode cX1_centralNumber 15 = .ok (.getfield 61, 3) := by decide +kernel
theorem dX1_centralNumber_18 : decode cX1_centralNumber 18 = .ok (.ireturn, 1) := by decide +kernel
theorem dX1_heldFields_0 : decode cX1_heldFields 0 = .ok (.aload_n 0, 1) := by decide +kernel
theorem dX1_heldFields_1 : decode cX1_heldFields 1 = .ok (.iload_n 1, 1) := by decide +kernel
theorem dX1_heldFields_2 : decode cX1_heldFields 2 = .ok (.invokevirtual 57, 3) := by decide +kernel
theorem dX1_heldFields_5 : decode cX1_heldFields 5 = .ok (.astore_n 2, 1) := by decide +kernel
theorem dX1_heldFields_6 : decode cX1_heldFields 6 = .ok (.aload_n 2, 1) := by decide +kernel
theorem dX1_heldFields_7 : decode cX1_heldFields 7 = .ok (.ifnull 16, 3) := by decide +kernel
theorem dX1_heldFields_10 : decode cX1_heldFields 10 = .ok (.aload_n 2, 1) := by decide +kernel
theorem dX1_heldFields_11 : decode cX1_heldFields 11 = .ok (.getfield 61, 3) := by decide +kernel
theorem dX1_heldFields_14 : decode cX1_heldFields 14 = .ok (.iconst (-1), 1) := by decide +kernel
theorem dX1_heldFields_15 : decode cX1_heldFields 15 = .ok (.if_icmp .ne 8, 3) := by decide +kernel
theorem dX1_heldFields_18 : decode cX1_heldFields 18 = .ok (.aload_n 2, 1) := by decide +kernel
theorem dX1_heldFields_19 : decode cX1_heldFields 19 = .ok (.getfield 64, 3) := by decide +kernel
theorem dX1_heldFields_22 : decode cX1_heldFields 22 = .ok (.areturn, 1) := by decide +kernel
theorem dX1_heldFields_23 : decode cX1_heldFields 23 = .ok (.aload_n 2, 1) := by decide +kernel
theorem dX1_heldFields_24 : decode cX1_heldFields 24 = .ok (.ifnonnull 7, 3) := by decide +kernel
theorem dX1_heldFields_27 : decode cX1_heldFields 27 = .ok (.iload_n 1, 1) := by decide +kernel
theorem dX1_heldFields_28 : decode cX1_heldFields 28 = .ok (.goto 7, 3) := by decide +kernel
theorem dX1_heldFields_31 : decode cX1_heldFields 31 = .ok (.aload_n 2, 1) := by decide +kernel
theorem dX1_heldFields_32 : decode cX1_heldFields 32 = .ok (.getfield 61, 3) := by decide +kernel
theorem dX1_heldFields_35 : decode cX1_heldFields 35 = .ok (.istore_n 3, 1) := by decide +kernel
theorem dX1_heldFields_36 : decode cX1_heldFields 36 = .ok (.iload_n 3, 1) := by decide +kernel
theorem dX1_heldFields_37 : decode cX1_heldFields 37 = .ok (.ifCond .lt 18, 3) := by decide +kernel
theorem dX1_heldFields_40 : decode cX1_heldFields 40 = .ok (.iload_n 3, 1) := by decide +kernel
theorem dX1_heldFields_41 : decode cX1_heldFields 41 = .ok (.bipush 40, 2) := by decide +kernel
theorem dX1_heldFields_43 : decode cX1_heldFields 43 = .ok (.if_icmp .ge 12, 3) := by decide +kernel
theorem dX1_heldFields_46 : decode cX1_heldFields 46 = .ok (.aload_n 0, 1) := by decide +kernel
theorem dX1_heldFields_47 : decode cX1_heldFields 47 = .ok (.getfield 21, 3) := by decide +kernel
theorem dX1_heldFields_50 : decode cX1_heldFields 50 = .ok (.iload_n 3, 1) := by decide +kernel
theorem dX1_heldFields_51 : decode cX1_heldFields 51 = .ok (.baload, 1) := by decide +kernel
theorem dX1_heldFields_52 : decode cX1_heldFields 52 = .ok (.ifCond .ne 5, 3) := by decide +kernel
theorem dX1_heldFields_55 : decode cX1_heldFields 55 = .ok (.aconst_null, 1) := by decide +kernel
theorem dX1_heldFields_56 : decode cX1_heldFields 56 = .ok (.areturn, 1) := by decide +kernel
theorem dX1_heldFields_57 : decode cX1_heldFields 57 = .ok (.aload_n 0, 1) := by decide +kernel
theorem dX1_heldFields_58 : decode cX1_heldFields 58 = .ok (.getfield 17, 3) := by decide +kernel
theorem dX1_heldFields_61 : decode cX1_heldFields 61 = .ok (.iload_n 3, 1) := by decide +kernel
theorem dX1_heldFields_62 : decode cX1_heldFields 62 = .ok (.aaload, 1) := by decide +kernel
theorem dX1_heldFields_63 : decode cX1_heldFields 63 = .ok (.areturn, 1) := by decide +kernel
theorem dX1_heldCount_0 : decode cX1_heldCount 0 = .ok (.aload_n 0, 1) := by decide +kernel
theorem dX1_heldCount_1 : decode cX1_heldCount 1 = .ok (.getfield 25, 3) := by decide +kernel
theorem dX1_heldCount_4 : decode cX1_heldCount 4 = .ok (.aload_n 0, 1) := by decide +kernel
theorem dX1_heldCount_5 : decode cX1_heldCount 5 = .ok (.getfield 35, 3) := by decide +kernel
theorem dX1_heldCount_8 : decode cX1_heldCount 8 = .ok (.iadd, 1) := by decide +kernel
theorem dX1_heldCount_9 : decode cX1_heldCount 9 = .ok (.ireturn, 1) := by decide +kernel
theorem dX1_dropCopies_0 : decode cX1_dropCopies 0 = .ok (.iconst 0, 1) := by decide +kernel
theorem dX1_dropCopies_1 : decode cX1_dropCopies 1 = .ok (.istore_n 1, 1) := by decide +kernel
theorem dX1_dropCopies_2 : decode cX1_dropCopies 2 = .ok (.iload_n 1, 1) := by decide +kernel
theorem dX1_dropCopies_3 : decode cX1_dropCopies 3 = .ok (.bipush 40, 2) := by decide +kernel
theorem dX1_dropCopies_5 : decode cX1_dropCopies 5 = .ok (.if_icmp .ge 16, 3) := by decide +kernel
theorem dX1_dropCopies_8 : decode cX1_dropCopies 8 = .ok (.aload_n 0, 1) := by decide +kernel
theorem dX1_dropCopies_9 : decode cX1_dropCopies 9 = .ok (.getfield 21, 3) := by decide +kernel
theorem dX1_dropCopies_12 : decode cX1_dropCopies 12 = .ok (.iload_n 1, 1) := by decide +kernel
theorem dX1_dropCopies_13 : decode cX1_dropCopies 13 = .ok (.iconst 0, 1) := by decide +kernel
theorem dX1_dropCopies_14 : decode cX1_dropCopies 14 = .ok (.bastore, 1) := by decide +kernel
theorem dX1_dropCopies_15 : decode cX1_dropCopies 15 = .ok (.iinc 1 1, 3) := by decide +kernel
theorem dX1_dropCopies_18 : decode cX1_dropCopies 18 = .ok (.goto (-16), 3) := by decide +kernel
theorem dX1_dropCopies_21 : decode cX1_dropCopies 21 = .ok (.aload_n 0, 1) := by decide +kernel
theorem dX1_dropCopies_22 : decode cX1_dropCopies 22 = .ok (.iconst 0, 1) := by decide +kernel
theorem dX1_dropCopies_23 : decode cX1_dropCopies 23 = .ok (.putfield 25, 3) := by decide +kernel
theorem dX1_dropCopies_26 : decode cX1_dropCopies 26 = .ok (.return_, 1) := by decide +kernel
theorem dX1_hold_0 : decode cX1_hold 0 = .ok (.iload_n 1, 1) := by decide +kernel
theorem dX1_hold_1 : decode cX1_hold 1 = .ok (.ifCond .lt 9, 3) := by decide +kernel
theorem dX1_hold_4 : decode cX1_hold 4 = .ok (.iload_n 1, 1) := by decide +kernel
theorem dX1_hold_5 : decode cX1_hold 5 = .ok (.bipush 40, 2) := by decide +kernel
theorem dX1_hold_7 : decode cX1_hold 7 = .ok (.if_icmp .lt 4, 3) := by decide +kernel
theorem dX1_hold_10 : decode cX1_hold 10 = .ok (.return_, 1) := by decide +kernel
theorem dX1_hold_11 : decode cX1_hold 11 = .ok (.aload_n 0, 1) := by decide +kernel
theorem dX1_hold_12 : decode cX1_hold 12 = .ok (.getfield 17, 3) := by decide +kernel
theorem dX1_hold_15 : decode cX1_hold 15 = .ok (.iload_n 1, 1) := by decide +kernel
theorem dX1_hold_16 : decode cX1_hold 16 = .ok (.aaload, 1) := by decide +kernel
theorem dX1_hold_17 : decode cX1_hold 17 = .ok (.astore_n 3, 1) := by decide +kernel
theorem dX1_hold_18 : decode cX1_hold 18 = .ok (.aload_n 3, 1) := by decide +kernel
theorem dX1_hold_19 : decode cX1_hold 19 = .ok (.ifnonnull 18, 3) := by decide +kernel
theorem dX1_hold_22 : decode cX1_hold 22 = .ok (.new 15, 3) := by decide +kernel
theorem dX1_hold_25 : decode cX1_hold 25 = .ok (.dup, 1) := by decide +kernel
theorem dX1_hold_26 : decode cX1_hold 26 = .ok (.invokespecial 68, 3) := by decide +kernel
theorem dX1_hold_29 : decode cX1_hold 29 = .ok (.astore_n 3, 1) := by decide +kernel
theorem dX1_hold_30 : decode cX1_hold 30 = .ok (.aload_n 0, 1) := by decide +kernel
theorem dX1_hold_31 : decode cX1_hold 31 = .ok (.getfield 17, 3) := by decide +kernel
theorem dX1_hold_34 : decode cX1_hold 34 = .ok (.iload_n 1, 1) := by decide +kernel
theorem dX1_hold_35 : decode cX1_hold 35 = .ok (.aload_n 3, 1) := by decide +kernel
theorem dX1_hold_36 : decode cX1_hold 36 = .ok (.aastore, 1) := by decide +kernel
theorem dX1_hold_37 : decode cX1_hold 37 = .ok (.aload_n 3, 1) := by decide +kernel
theorem dX1_hold_38 : decode cX1_hold 38 = .ok (.aload_n 2, 1) := by decide +kernel
theorem dX1_hold_39 : decode cX1_hold 39 = .ok (.invokevirtual 69, 3) := by decide +kernel
theorem dX1_hold_42 : decode cX1_hold 42 = .ok (.aload_n 0, 1) := by decide +kernel
theorem dX1_hold_43 : decode cX1_hold 43 = .ok (.getfield 21, 3) := by decide +kernel
theorem dX1_hold_46 : decode cX1_hold 46 = .ok (.iload_n 1, 1) := by decide +kernel
theorem dX1_hold_47 : decode cX1_hold 47 = .ok (.baload, 1) := by decide +kernel
theorem dX1_hold_48 : decode cX1_hold 48 = .ok (.ifCond .ne 20, 3) := by decide +kernel
theorem dX1_hold_51 : decode cX1_hold 51 = .ok (.aload_n 0, 1) := by decide +kernel
theorem dX1_hold_52 : decode cX1_hold 52 = .ok (.getfield 21, 3) := by decide +kernel
theorem dX1_hold_55 : decode cX1_hold 55 = .ok (.iload_n 1, 1) := by decide +kernel
theorem dX1_hold_56 : decode cX1_hold 56 = .ok (.iconst 1, 1) := by decide +kernel
theorem dX1_hold_57 : decode cX1_hold 57 = .ok (.bastore, 1) := by decide +kernel
theorem dX1_hold_58 : decode cX1_hold 58 = .ok (.aload_n 0, 1) := by decide +kernel
theorem dX1_hold_59 : decode cX1_hold 59 = .ok (.dup, 1) := by decide +kernel
theorem dX1_hold_60 : decode cX1_hold 60 = .ok (.getfield 25, 3) := by decide +kernel
theorem dX1_hold_63 : decode cX1_hold 63 = .ok (.iconst 1, 1) := by decide +kernel
theorem dX1_hold_64 : decode cX1_hold 64 = .ok (.iadd, 1) := by decide +kernel
theorem dX1_hold_65 : decode cX1_hold 65 = .ok (.putfield 25, 3) := by decide +kernel
theorem dX1_hold_68 : decode cX1_hold 68 = .ok (.return_, 1) := by decide +kernel
theorem dX1_giveNumber_0 : decode cX1_giveNumber 0 = .ok (.aload_n 1, 1) := by decide +kernel
theorem dX1_giveNumber_1 : decode cX1_giveNumber 1 = .ok (.iload_n 2, 1) := by decide +kernel
theorem dX1_giveNumber_2 : decode cX1_giveNumber 2 = .ok (.putfield 61, 3) := by decide +kernel
theorem dX1_giveNumber_5 : decode cX1_giveNumber 5 = .ok (.aload_n 0, 1) := by decide +kernel
theorem dX1_giveNumber_6 : decode cX1_giveNumber 6 = .ok (.dup, 1) := by decide +kernel
theorem dX1_giveNumber_7 : decode cX1_giveNumber 7 = .ok (.getfield 35, 3) := by decide +kernel
theorem dX1_giveNumber_10 : decode cX1_giveNumber 10 = .ok (.iconst 1, 1) := by decide +kernel
theorem dX1_giveNumber_11 : decode cX1_giveNumber 11 = .ok (.isub, 1) := by decide +kernel
theorem dX1_giveNumber_12 : decode cX1_giveNumber 12 = .ok (.putfield 35, 3) := by decide +kernel
theorem dX1_giveNumber_15 : decode cX1_giveNumber 15 = .ok (.aload_n 0, 1) := by decide +kernel
theorem dX1_giveNumber_16 : decode cX1_giveNumber 16 = .ok (.iload_n 2, 1) := by decide +kernel
theorem dX1_giveNumber_17 : decode cX1_giveNumber 17 = .ok (.aload_n 1, 1) := by decide +kernel
theorem dX1_giveNumber_18 : decode cX1_giveNumber 18 = .ok (.getfield 64, 3) := by decide +kernel
theorem dX1_giveNumber_21 : decode cX1_giveNumber 21 = .ok (.invokevirtual 73, 3) := by decide +kernel
theorem dX1_giveNumber_24 : decode cX1_giveNumber 24 = .ok (.return_, 1) := by decide +kernel
theorem dX1_takesActs_0 : decode cX1_takesActs 0 = .ok (.aload_n 0, 1) := by decide +kernel
theorem dX1_takesActs_1 : decode cX1_takesActs 1 = .ok (.getfield 38, 3) := by decide +kernel
theorem dX1_takesActs_4 : decode cX1_takesActs 4 = .ok (.invokevirtual 47, 3) := by decide +kernel
theorem dX1_takesActs_7 : decode cX1_takesActs 7 = .ok (.sipush 512, 3) := by decide +kernel
theorem dX1_takesActs_10 : decode cX1_takesActs 10 = .ok (.if_icmp .ge 7, 3) := by decide +kernel
theorem dX1_takesActs_13 : decode cX1_takesActs 13 = .ok (.iconst 1, 1) := by decide +kernel
theorem dX1_takesActs_14 : decode cX1_takesActs 14 = .ok (.goto 4, 3) := by decide +kernel
theorem dX1_takesActs_17 : decode cX1_takesActs 17 = .ok (.iconst 0, 1) := by decide +kernel
theorem dX1_takesActs_18 : decode cX1_takesActs 18 = .ok (.ireturn, 1) := by decide +kernel
theorem dX1_waitingCount_0 : decode cX1_waitingCount 0 = .ok (.aload_n 0, 1) := by decide +kernel
theorem dX1_waitingCount_1 : decode cX1_waitingCount 1 = .ok (.getfield 38, 3) := by decide +kernel
theorem dX1_waitingCount_4 : decode cX1_waitingCount 4 = .ok (.invokevirtual 47, 3) := by decide +kernel
theorem dX1_waitingCount_7 : decode cX1_waitingCount 7 = .ok (.aload_n 0, 1) := by decide +kernel
theorem dX1_waitingCount_8 : decode cX1_waitingCount 8 = .ok (.getfield 41, 3) := by decide +kernel
theorem dX1_waitingCount_11 : decode cX1_waitingCount 11 = .ok (.isub, 1) := by decide +kernel
theorem dX1_waitingCount_12 : decode cX1_waitingCount 12 = .ok (.ireturn, 1) := by decide +kernel
theorem dX1_makeJob_0 : decode cX1_makeJob 0 = .ok (.sipush 1000, 3) := by decide +kernel
theorem dX1_makeJob_3 : decode cX1_makeJob 3 = .ok (.aload_n 0, 1) := by decide +kernel
theorem dX1_makeJob_4 : decode cX1_makeJob 4 = .ok (.getfield 31, 3) := by decide +kernel
theorem dX1_makeJob_7 : decode cX1_makeJob 7 = .ok (.invokevirtual 47, 3) := by decide +kernel
theorem dX1_makeJob_10 : decode cX1_makeJob 10 = .ok (.iadd, 1) := by decide +kernel
theorem dX1_makeJob_11 : decode cX1_makeJob 11 = .ok (.istore_n 2, 1) := by decide +kernel
theorem dX1_makeJob_12 : decode cX1_makeJob 12 = .ok (.aload_n 0, 1) := by decide +kernel
theorem dX1_makeJob_13 : decode cX1_makeJob 13 = .ok (.getfield 31, 3) := by decide +kernel
theorem dX1_makeJob_16 : decode cX1_makeJob 16 = .ok (.new 55, 3) := by decide +kernel
theorem dX1_makeJob_19 : decode cX1_makeJob 19 = .ok (.dup, 1) := by decide +kernel
theorem dX1_makeJob_20 : decode cX1_makeJob 20 = .ok (.invokespecial 77, 3) := by decide +kernel
theorem dX1_makeJob_23 : decode cX1_makeJob 23 = .ok (.invokevirtual 78, 3) := by decide +kernel
theorem dX1_makeJob_26 : decode cX1_makeJob 26 = .ok (.pop, 1) := by decide +kernel
theorem dX1_makeJob_27 : decode cX1_makeJob 27 = .ok (.aload_n 0, 1) := by decide +kernel
theorem dX1_makeJob_28 : decode cX1_makeJob 28 = .ok (.dup, 1) := by decide +kernel
theorem dX1_makeJob_29 : decode cX1_makeJob 29 = .ok (.getfield 35, 3) := by decide +kernel
theorem dX1_makeJob_32 : decode cX1_makeJob 32 = .ok (.iconst 1, 1) := by decide +kernel
theorem dX1_makeJob_33 : decode cX1_makeJob 33 = .ok (.iadd, 1) := by decide +kernel
theorem dX1_makeJob_34 : decode cX1_makeJob 34 = .ok (.putfield 35, 3) := by decide +kernel
theorem dX1_makeJob_37 : decode cX1_makeJob 37 = .ok (.aload_n 0, 1) := by decide +kernel
theorem dX1_makeJob_38 : decode cX1_makeJob 38 = .ok (.getfield 38, 3) := by decide +kernel
theorem dX1_makeJob_41 : decode cX1_makeJob 41 = .ok (.new 82, 3) := by decide +kernel
theorem dX1_makeJob_44 : decode cX1_makeJob 44 = .ok (.dup, 1) := by decide +kernel
theorem dX1_makeJob_45 : decode cX1_makeJob 45 = .ok (.iload_n 2, 1) := by decide +kernel
theorem dX1_makeJob_46 : decode cX1_makeJob 46 = .ok (.iconst (-1), 1) := by decide +kernel
theorem dX1_makeJob_47 : decode cX1_makeJob 47 = .ok (.iload_n 1, 1) := by decide +kernel
theorem dX1_makeJob_48 : decode cX1_makeJob 48 = .ok (.iconst 0, 1) := by decide +kernel
theorem dX1_makeJob_49 : decode cX1_makeJob 49 = .ok (.invokespecial 84, 3) := by decide +kernel
theorem dX1_makeJob_52 : decode cX1_makeJob 52 = .ok (.invokevirtual 78, 3) := by decide +kernel
theorem dX1_makeJob_55 : decode cX1_makeJob 55 = .ok (.pop, 1) := by decide +kernel
theorem dX1_makeJob_56 : decode cX1_makeJob 56 = .ok (.iload_n 2, 1) := by decide +kernel
theorem dX1_makeJob_57 : decode cX1_makeJob 57 = .ok (.ireturn, 1) := by decide +kernel
theorem dX1_changeJob_0 : decode cX1_changeJob 0 = .ok (.aload_n 0, 1) := by decide +kernel
theorem dX1_changeJob_1 : decode cX1_changeJob 1 = .ok (.getfield 38, 3) := by decide +kernel
theorem dX1_changeJob_4 : decode cX1_changeJob 4 = .ok (.new 82, 3) := by decide +kernel
theorem dX1_changeJob_7 : decode cX1_changeJob 7 = .ok (.dup, 1) := by decide +kernel
theorem dX1_changeJob_8 : decode cX1_changeJob 8 = .ok (.iload_n 1, 1) := by decide +kernel
theorem dX1_changeJob_9 : decode cX1_changeJob 9 = .ok (.iload_n 3, 1) := by decide +kernel
theorem dX1_changeJob_10 : decode cX1_changeJob 10 = .ok (.iload 4, 2) := by decide +kernel
theorem dX1_changeJob_12 : decode cX1_changeJob 12 = .ok (.aload_n 2, 1) := by decide +kernel
theorem dX1_changeJob_13 : decode cX1_changeJob 13 = .ok (.iload_n 3, 1) := by decide +kernel
theorem dX1_changeJob_14 : decode cX1_changeJob 14 = .ok (.invokevirtual 87, 3) := by decide +kernel
theorem dX1_changeJob_17 : decode cX1_changeJob 17 = .ok (.invokespecial 84, 3) := by decide +kernel
theorem dX1_changeJob_20 : decode cX1_changeJob 20 = .ok (.invokevirtual 78, 3) := by decide +kernel
theorem dX1_changeJob_23 : decode cX1_changeJob 23 = .ok (.pop, 1) := by decide +kernel
theorem dX1_changeJob_24 : decode cX1_changeJob 24 = .ok (.aload_n 2, 1) := by decide +kernel
theorem dX1_changeJob_25 : decode cX1_changeJob 25 = .ok (.iload_n 3, 1) := by decide +kernel
theorem dX1_changeJob_26 : decode cX1_changeJob 26 = .ok (.iload 4, 2) := by decide +kernel
theorem dX1_changeJob_28 : decode cX1_changeJob 28 = .ok (.invokevirtual 91, 3) := by decide +kernel
theorem dX1_changeJob_31 : decode cX1_changeJob 31 = .ok (.return_, 1) := by decide +kernel
theorem dX1_takeAct_0 : decode cX1_takeAct 0 = .ok (.aload_n 0, 1) := by decide +kernel
theorem dX1_takeAct_1 : decode cX1_takeAct 1 = .ok (.getfield 41, 3) := by decide +kernel
theorem dX1_takeAct_4 : decode cX1_takeAct 4 = .ok (.ifCond .lt 17, 3) := by decide +kernel
theorem dX1_takeAct_7 : decode cX1_takeAct 7 = .ok (.aload_n 0, 1) := by decide +kernel
theorem dX1_takeAct_8 : decode cX1_takeAct 8 = .ok (.getfield 41, 3) := by decide +kernel
theorem dX1_takeAct_11 : decode cX1_takeAct 11 = .ok (.aload_n 0, 1) := by decide +kernel
theorem dX1_takeAct_12 : decode cX1_takeAct 12 = .ok (.getfield 38, 3) := by decide +kernel
theorem dX1_takeAct_15 : decode cX1_takeAct 15 = .ok (.invokevirtual 47, 3) := by decide +kernel
theorem dX1_takeAct_18 : decode cX1_takeAct 18 = .ok (.if_icmp .lt 5, 3) := by decide +kernel
theorem dX1_takeAct_21 : decode cX1_takeAct 21 = .ok (.aconst_null, 1) := by decide +kernel
theorem dX1_takeAct_22 : decode cX1_takeAct 22 = .ok (.areturn, 1) := by decide +kernel
theorem dX1_takeAct_23 : decode cX1_takeAct 23 = .ok (.aload_n 0, 1) := by decide +kernel
theorem dX1_takeAct_24 : decode cX1_takeAct 24 = .ok (.getfield 38, 3) := by decide +kernel
theorem dX1_takeAct_27 : decode cX1_takeAct 27 = .ok (.aload_n 0, 1) := by decide +kernel
theorem dX1_takeAct_28 : decode cX1_takeAct 28 = .ok (.getfield 41, 3) := by decide +kernel
theorem dX1_takeAct_31 : decode cX1_takeAct 31 = .ok (.invokevirtual 51, 3) := by decide +kernel
theorem dX1_takeAct_34 : decode cX1_takeAct 34 = .ok (.checkcast 82, 3) := by decide +kernel
theorem dX1_takeAct_37 : decode cX1_takeAct 37 = .ok (.astore_n 1, 1) := by decide +kernel
theorem dX1_takeAct_38 : decode cX1_takeAct 38 = .ok (.aload_n 0, 1) := by decide +kernel
theorem dX1_takeAct_39 : decode cX1_takeAct 39 = .ok (.dup, 1) := by decide +kernel
theorem dX1_takeAct_40 : decode cX1_takeAct 40 = .ok (.getfield 41, 3) := by decide +kernel
theorem dX1_takeAct_43 : decode cX1_takeAct 43 = .ok (.iconst 1, 1) := by decide +kernel
theorem dX1_takeAct_44 : decode cX1_takeAct 44 = .ok (.iadd, 1) := by decide +kernel
theorem dX1_takeAct_45 : decode cX1_takeAct 45 = .ok (.putfield 41, 3) := by decide +kernel
theorem dX1_takeAct_48 : decode cX1_takeAct 48 = .ok (.aload_n 1, 1) := by decide +kernel
theorem dX1_takeAct_49 : decode cX1_takeAct 49 = .ok (.areturn, 1) := by decide +kernel
theorem dX1_refuse_0 : decode cX1_refuse 0 = .ok (.aload_n 1, 1) := by decide +kernel
theorem dX1_refuse_1 : decode cX1_refuse 1 = .ok (.iload_n 2, 1) := by decide +kernel
theorem dX1_refuse_2 : decode cX1_refuse 2 = .ok (.putfield 95, 3) := by decide +kernel
theorem dX1_refuse_5 : decode cX1_refuse 5 = .ok (.aload_n 0, 1) := by decide +kernel
theorem dX1_refuse_6 : decode cX1_refuse 6 = .ok (.getfield 44, 3) := by decide +kernel
theorem dX1_refuse_9 : decode cX1_refuse 9 = .ok (.aload_n 1, 1) := by decide +kernel
theorem dX1_refuse_10 : decode cX1_refuse 10 = .ok (.invokevirtual 78, 3) := by decide +kernel
theorem dX1_refuse_13 : decode cX1_refuse 13 = .ok (.pop, 1) := by decide +kernel
theorem dX1_refuse_14 : decode cX1_refuse 14 = .ok (.return_, 1) := by decide +kernel
theorem dX2_init_0 : decode cX2_init 0 = .ok (.aload_n 0, 1) := by decide +kernel
theorem dX2_init_1 : decode cX2_init 1 = .ok (.invokespecial 3, 3) := by decide +kernel
theorem dX2_init_4 : decode cX2_init 4 = .ok (.aload_n 0, 1) := by decide +kernel
theorem dX2_init_5 : decode cX2_init 5 = .ok (.iconst 0, 1) := by decide +kernel
theorem dX2_init_6 : decode cX2_init 6 = .ok (.putfield 9, 3) := by decide +kernel
theorem dX2_init_9 : decode cX2_init 9 = .ok (.aload_n 0, 1) := by decide +kernel
theorem dX2_init_10 : decode cX2_init 10 = .ok (.iconst 0, 1) := by decide +kernel
theorem dX2_init_11 : decode cX2_init 11 = .ok (.putfield 15, 3) := by decide +kernel
theorem dX2_init_14 : decode cX2_init 14 = .ok (.aload_n 0, 1) := by decide +kernel
theorem dX2_init_15 : decode cX2_init 15 = .ok (.iconst 0, 1) := by decide +kernel
theorem dX2_init_16 : decode cX2_init 16 = .ok (.putfield 18, 3) := by decide +kernel
theorem dX2_init_19 : decode cX2_init 19 = .ok (.aload_n 0, 1) := by decide +kernel
theorem dX2_init_20 : decode cX2_init 20 = .ok (.iconst 0, 1) := by decide +kernel
theorem dX2_init_21 : decode cX2_init 21 = .ok (.putfield 21, 3) := by decide +kernel
theorem dX2_init_24 : decode cX2_init 24 = .ok (.return_, 1) := by decide +kernel
theorem dX2_valueOf_0 : decode cX2_valueOf 0 = .ok (.iload_n 1, 1) := by decide +kernel
theorem dX2_valueOf_1 : decode cX2_valueOf 1 = .ok (.ifCond .ne 10, 3) := by decide +kernel
theorem dX2_valueOf_4 : decode cX2_valueOf 4 = .ok (.aload_n 0, 1) := by decide +kernel
theorem dX2_valueOf_5 : decode cX2_valueOf 5 = .ok (.getfield 9, 3) := by decide +kernel
theorem dX2_valueOf_8 : decode cX2_valueOf 8 = .ok (.goto 7, 3) := by decide +kernel
theorem dX2_valueOf_11 : decode cX2_valueOf 11 = .ok (.aload_n 0, 1) := by decide +kernel
theorem dX2_valueOf_12 : decode cX2_valueOf 12 = .ok (.getfield 15, 3) := by decide +kernel
theorem dX2_valueOf_15 : decode cX2_valueOf 15 = .ok (.ireturn, 1) := by decide +kernel
theorem dX2_versionOf_0 : decode cX2_versionOf 0 = .ok (.iload_n 1, 1) := by decide +kernel
theorem dX2_versionOf_1 : decode cX2_versionOf 1 = .ok (.ifCond .ne 10, 3) := by decide +kernel
theorem dX2_versionOf_4 : decode cX2_versionOf 4 = .ok (.aload_n 0, 1) := by decide +kernel
theorem dX2_versionOf_5 : decode cX2_versionOf 5 = .ok (.getfield 18, 3) := by decide +kernel
theorem dX2_versionOf_8 : decode cX2_versionOf 8 = .ok (.goto 7, 3) := by decide +kernel
theorem dX2_versionOf_11 : decode cX2_versionOf 11 = .ok (.aload_n 0, 1) := by decide +kernel
theorem dX2_versionOf_12 : decode cX2_versionOf 12 = .ok (.getfield 21, 3) := by decide +kernel
theorem dX2_versionOf_15 : decode cX2_versionOf 15 = .ok (.ireturn, 1) := by decide +kernel
theorem dX2_put_0 : decode cX2_put 0 = .ok (.iload_n 1, 1) := by decide +kernel
theorem dX2_put_1 : decode cX2_put 1 = .ok (.ifCond .ne 21, 3) := by decide +kernel
theorem dX2_put_4 : decode cX2_put 4 = .ok (.aload_n 0, 1) := by decide +kernel
theorem dX2_put_5 : decode cX2_put 5 = .ok (.iload_n 2, 1) := by decide +kernel
theorem dX2_put_6 : decode cX2_put 6 = .ok (.putfield 9, 3) := by decide +kernel
theorem dX2_put_9 : decode cX2_put 9 = .ok (.aload_n 0, 1) := by decide +kernel
theorem dX2_put_10 : decode cX2_put 10 = .ok (.dup, 1) := by decide +kernel
theorem dX2_put_11 : decode cX2_put 11 = .ok (.getfield 18, 3) := by decide +kernel
theorem dX2_put_14 : decode cX2_put 14 = .ok (.iconst 1, 1) := by decide +kernel
theorem dX2_put_15 : decode cX2_put 15 = .ok (.iadd, 1) := by decide +kernel
theorem dX2_put_16 : decode cX2_put 16 = .ok (.putfield 18, 3) := by decide +kernel
theorem dX2_put_19 : decode cX2_put 19 = .ok (.goto 18, 3) := by decide +kernel
theorem dX2_put_22 : decode cX2_put 22 = .ok (.aload_n 0, 1) := by decide +kernel
theorem dX2_put_23 : decode cX2_put 23 = .ok (.iload_n 2, 1) := by decide +kernel
theorem dX2_put_24 : decode cX2_put 24 = .ok (.putfield 15, 3) := by decide +kernel
theorem dX2_put_27 : decode cX2_put 27 = .ok (.aload_n 0, 1) := by decide +kernel
theorem dX2_put_28 : decode cX2_put 28 = .ok (.dup, 1) := by decide +kernel
theorem dX2_put_29 : decode cX2_put 29 = .ok (.getfield 21, 3) := by decide +kernel
theorem dX2_put_32 : decode cX2_put 32 = .ok (.iconst 1, 1) := by decide +kernel
theorem dX2_put_33 : decode cX2_put 33 = .ok (.iadd, 1) := by decide +kernel
theorem dX2_put_34 : decode cX2_put 34 = .ok (.putfield 21, 3) := by decide +kernel
theorem dX2_put_37 : decode cX2_put 37 = .ok (.return_, 1) := by decide +kernel
theorem dX2_copyFrom_0 : decode cX2_copyFrom 0 = .ok (.aload_n 0, 1) := by decide +kernel
theorem dX2_copyFrom_1 : decode cX2_copyFrom 1 = .ok (.aload_n 1, 1) := by decide +kernel
theorem dX2_copyFrom_2 : decode cX2_copyFrom 2 = .ok (.getfield 9, 3) := by decide +kernel
theorem dX2_copyFrom_5 : decode cX2_copyFrom 5 = .ok (.putfield 9, 3) := by decide +kernel
theorem dX2_copyFrom_8 : decode cX2_copyFrom 8 = .ok (.aload_n 0, 1) := by decide +kernel
theorem dX2_copyFrom_9 : decode cX2_copyFrom 9 = .ok (.aload_n 1, 1) := by decide +kernel
theorem dX2_copyFrom_10 : decode cX2_copyFrom 10 = .ok (.getfield 15, 3) := by decide +kernel
theorem dX2_copyFrom_13 : decode cX2_copyFrom 13 = .ok (.putfield 15, 3) := by decide +kernel
theorem dX2_copyFrom_16 : decode cX2_copyFrom 16 = .ok (.aload_n 0, 1) := by decide +kernel
theorem dX2_copyFrom_17 : decode cX2_copyFrom 17 = .ok (.aload_n 1, 1) := by decide +kernel
theorem dX2_copyFrom_18 : decode cX2_copyFrom 18 = .ok (.getfield 18, 3) := by decide +kernel
theorem dX2_copyFrom_21 : decode cX2_copyFrom 21 = .ok (.putfield 18, 3) := by decide +kernel
theorem dX2_copyFrom_24 : decode cX2_copyFrom 24 = .ok (.aload_n 0, 1) := by decide +kernel
theorem dX2_copyFrom_25 : decode cX2_copyFrom 25 = .ok (.aload_n 1, 1) := by decide +kernel
theorem dX2_copyFrom_26 : decode cX2_copyFrom 26 = .ok (.getfield 21, 3) := by decide +kernel
theorem dX2_copyFrom_29 : decode cX2_copyFrom 29 = .ok (.putfield 21, 3) := by decide +kernel
theorem dX2_copyFrom_32 : decode cX2_copyFrom 32 = .ok (.return_, 1) := by decide +kernel
theorem dX3_init_0 : decode cX3_init 0 = .ok (.aload_n 0, 1) := by decide +kernel
theorem dX3_init_1 : decode cX3_init 1 = .ok (.invokespecial 1, 3) := by decide +kernel
theorem dX3_init_4 : decode cX3_init 4 = .ok (.aload_n 0, 1) := by decide +kernel
theorem dX3_init_5 : decode cX3_init 5 = .ok (.new 7, 3) := by decide +kernel
theorem dX3_init_8 : decode cX3_init 8 = .ok (.dup, 1) := by decide +kernel
theorem dX3_init_9 : decode cX3_init 9 = .ok (.invokespecial 9, 3) := by decide +kernel
theorem dX3_init_12 : decode cX3_init 12 = .ok (.putfield 10, 3) := by decide +kernel
theorem dX3_init_15 : decode cX3_init 15 = .ok (.aload_n 0, 1) := by decide +kernel
theorem dX3_init_16 : decode cX3_init 16 = .ok (.iload_n 1, 1) := by decide +kernel
theorem dX3_init_17 : decode cX3_init 17 = .ok (.putfield 16, 3) := by decide +kernel
theorem dX3_init_20 : decode cX3_init 20 = .ok (.aload_n 0, 1) := by decide +kernel
theorem dX3_init_21 : decode cX3_init 21 = .ok (.iload_n 2, 1) := by decide +kernel
theorem dX3_init_22 : decode cX3_init 22 = .ok (.putfield 20, 3) := by decide +kernel
theorem dX3_init_25 : decode cX3_init 25 = .ok (.return_, 1) := by decide +kernel
theorem dX4_init_0 : decode cX4_init 0 = .ok (.aload_n 0, 1) := by decide +kernel
theorem dX4_init_1 : decode cX4_init 1 = .ok (.invokespecial 3, 3) := by decide +kernel
theorem dX4_init_4 : decode cX4_init 4 = .ok (.aload_n 0, 1) := by decide +kernel
theorem dX4_init_5 : decode cX4_init 5 = .ok (.iconst (-1), 1) := by decide +kernel
theorem dX4_init_6 : decode cX4_init 6 = .ok (.putfield 9, 3) := by decide +kernel
theorem dX4_init_9 : decode cX4_init 9 = .ok (.aload_n 0, 1) := by decide +kernel
theorem dX4_init_10 : decode cX4_init 10 = .ok (.new 15, 3) := by decide +kernel
theorem dX4_init_13 : decode cX4_init 13 = .ok (.dup, 1) := by decide +kernel
theorem dX4_init_14 : decode cX4_init 14 = .ok (.invokespecial 17, 3) := by decide +kernel
theorem dX4_init_17 : decode cX4_init 17 = .ok (.putfield 18, 3) := by decide +kernel
theorem dX4_init_20 : decode cX4_init 20 = .ok (.return_, 1) := by decide +kernel
theorem dX5_init_0 : decode cX5_init 0 = .ok (.aload_n 0, 1) := by decide +kernel
theorem dX5_init_1 : decode cX5_init 1 = .ok (.invokespecial 1, 3) := by decide +kernel
theorem dX5_init_4 : decode cX5_init 4 = .ok (.aload_n 0, 1) := by decide +kernel
theorem dX5_init_5 : decode cX5_init 5 = .ok (.new 7, 3) := by decide +kernel
theorem dX5_init_8 : decode cX5_init 8 = .ok (.dup, 1) := by decide +kernel
theorem dX5_init_9 : decode cX5_init 9 = .ok (.invokespecial 9, 3) := by decide +kernel
theorem dX5_init_12 : decode cX5_init 12 = .ok (.putfield 10, 3) := by decide +kernel
theorem dX5_init_15 : decode cX5_init 15 = .ok (.aload_n 0, 1) := by decide +kernel
theorem dX5_init_16 : decode cX5_init 16 = .ok (.iconst 4, 1) := by decide +kernel
theorem dX5_init_17 : decode cX5_init 17 = .ok (.anewarray 16, 3) := by decide +kernel
theorem dX5_init_20 : decode cX5_init 20 = .ok (.putfield 18, 3) := by decide +kernel
theorem dX5_init_23 : decode cX5_init 23 = .ok (.aload_n 0, 1) := by decide +kernel
theorem dX5_init_24 : decode cX5_init 24 = .ok (.iconst 0, 1) := by decide +kernel
theorem dX5_init_25 : decode cX5_init 25 = .ok (.putfield 22, 3) := by decide +kernel
theorem dX5_init_28 : decode cX5_init 28 = .ok (.iconst 0, 1) := by decide +kernel
theorem dX5_init_29 : decode cX5_init 29 = .ok (.istore_n 1, 1) := by decide +kernel
theorem dX5_init_30 : decode cX5_init 30 = .ok (.iload_n 1, 1) := by decide +kernel
theorem dX5_init_31 : decode cX5_init 31 = .ok (.iconst 4, 1) := by decide +kernel
theorem dX5_init_32 : decode cX5_init 32 = .ok (.if_icmp .ge 22, 3) := by decide +kernel
theorem dX5_init_35 : decode cX5_init 35 = .ok (.aload_n 0, 1) := by decide +kernel
theorem dX5_init_36 : decode cX5_init 36 = .ok (.getfield 18, 3) := by decide +kernel
theorem dX5_init_39 : decode cX5_init 39 = .ok (.iload_n 1, 1) := by decide +kernel
theorem dX5_init_40 : decode cX5_init 40 = .ok (.new 16, 3) := by decide +kernel
theorem dX5_init_43 : decode cX5_init 43 = .ok (.dup, 1) := by decide +kernel
theorem dX5_init_44 : decode cX5_init 44 = .ok (.invokespecial 26, 3) := by decide +kernel
theorem dX5_init_47 : decode cX5_init 47 = .ok (.aastore, 1) := by decide +kernel
theorem dX5_init_48 : decode cX5_init 48 = .ok (.iinc 1 1, 3) := by decide +kernel
theorem dX5_init_51 : decode cX5_init 51 = .ok (.goto (-21), 3) := by decide +kernel
theorem dX5_init_54 : decode cX5_init 54 = .ok (.return_, 1) := by decide +kernel
theorem dX5_add_0 : decode cX5_add 0 = .ok (.iload_n 1, 1) := by decide +kernel
theorem dX5_add_1 : decode cX5_add 1 = .ok (.iconst 0, 1) := by decide +kernel
theorem dX5_add_2 : decode cX5_add 2 = .ok (.iconst 3, 1) := by decide +kernel
theorem dX5_add_3 : decode cX5_add 3 = .ok (.invokestatic 27, 3) := by decide +kernel
theorem dX5_add_6 : decode cX5_add 6 = .ok (.iload_n 2, 1) := by decide +kernel
theorem dX5_add_7 : decode cX5_add 7 = .ok (.iconst 0, 1) := by decide +kernel
theorem dX5_add_8 : decode cX5_add 8 = .ok (.bipush 9, 2) := by decide +kernel
theorem dX5_add_10 : decode cX5_add 10 = .ok (.invokestatic 27, 3) := by decide +kernel
theorem dX5_add_13 : decode cX5_add 13 = .ok (.aload_n 0, 1) := by decide +kernel
theorem dX5_add_14 : decode cX5_add 14 = .ok (.getfield 10, 3) := by decide +kernel
theorem dX5_add_17 : decode cX5_add 17 = .ok (.invokevirtual 31, 3) := by decide +kernel
theorem dX5_add_20 : decode cX5_add 20 = .ok (.bipush 40, 2) := by decide +kernel
theorem dX5_add_22 : decode cX5_add 22 = .ok (.if_icmp .lt 13, 3) := by decide +kernel
theorem dX5_add_25 : decode cX5_add 25 = .ok (.new 35, 3) := by decide +kernel
theorem dX5_add_28 : decode cX5_add 28 = .ok (.dup, 1) := by decide +kernel
theorem dX5_add_29 : decode cX5_add 29 = .ok (.ldc 37, 2) := by decide +kernel
theorem dX5_add_31 : decode cX5_add 31 = .ok (.invokespecial 39, 3) := by decide +kernel
theorem dX5_add_34 : decode cX5_add 34 = .ok (.athrow, 1) := by decide +kernel
theorem dX5_add_35 : decode cX5_add 35 = .ok (.aload_n 0, 1) := by decide +kernel
theorem dX5_add_36 : decode cX5_add 36 = .ok (.getfield 10, 3) := by decide +kernel
theorem dX5_add_39 : decode cX5_add 39 = .ok (.new 42, 3) := by decide +kernel
theorem dX5_add_42 : decode cX5_add 42 = .ok (.dup, 1) := by decide +kernel
theorem dX5_add_43 : decode cX5_add 43 = .ok (.iload_n 1, 1) := by decide +kernel
theorem dX5_add_44 : decode cX5_add 44 = .ok (.iload_n 2, 1) := by decide +kernel
theorem dX5_add_45 : decode cX5_add 45 = .ok (.invokespecial 44, 3) := by decide +kernel
theorem dX5_add_48 : decode cX5_add 48 = .ok (.invokevirtual 47, 3) := by decide +kernel
theorem dX5_add_51 : decode cX5_add 51 = .ok (.pop, 1) := by decide +kernel
theorem dX5_add_52 : decode cX5_add 52 = .ok (.aload_n 0, 1) := by decide +kernel
theorem dX5_add_53 : decode cX5_add 53 = .ok (.getfield 10, 3) := by decide +kernel
theorem dX5_add_56 : decode cX5_add 56 = .ok (.invokevirtual 31, 3) := by decide +kernel
theorem dX5_add_59 : decode cX5_add 59 = .ok (.iconst 1, 1) := by decide +kernel
theorem dX5_add_60 : decode cX5_add 60 = .ok (.isub, 1) := by decide +kernel
theorem dX5_add_61 : decode cX5_add 61 = .ok (.ireturn, 1) := by decide +kernel
theorem dX5_give_0 : decode cX5_give 0 = .ok (.aload_n 0, 1) := by decide +kernel
theorem dX5_give_1 : decode cX5_give 1 = .ok (.iload_n 1, 1) := by decide +kernel
theorem dX5_give_2 : decode cX5_give 2 = .ok (.invokevirtual 51, 3) := by decide +kernel
theorem dX5_give_5 : decode cX5_give 5 = .ok (.astore_n 3, 1) := by decide +kernel
theorem dX5_give_6 : decode cX5_give 6 = .ok (.iload_n 2, 1) := by decide +kernel
theorem dX5_give_7 : decode cX5_give 7 = .ok (.iconst 0, 1) := by decide +kernel
theorem dX5_give_8 : decode cX5_give 8 = .ok (.iconst 3, 1) := by decide +kernel
theorem dX5_give_9 : decode cX5_give 9 = .ok (.invokestatic 27, 3) := by decide +kernel
theorem dX5_give_12 : decode cX5_give 12 = .ok (.aload_n 3, 1) := by decide +kernel
theorem dX5_give_13 : decode cX5_give 13 = .ok (.getfield 55, 3) := by decide +kernel
theorem dX5_give_16 : decode cX5_give 16 = .ok (.istore 4, 2) := by decide +kernel
theorem dX5_give_18 : decode cX5_give 18 = .ok (.aload_n 3, 1) := by decide +kernel
theorem dX5_give_19 : decode cX5_give 19 = .ok (.iload_n 2, 1) := by decide +kernel
theorem dX5_give_20 : decode cX5_give 20 = .ok (.putfield 55, 3) := by decide +kernel
theorem dX5_give_23 : decode cX5_give 23 = .ok (.iload 4, 2) := by decide +kernel
theorem dX5_give_25 : decode cX5_give 25 = .ok (.ireturn, 1) := by decide +kernel
theorem dX5_set_0 : decode cX5_set 0 = .ok (.aload_n 0, 1) := by decide +kernel
theorem dX5_set_1 : decode cX5_set 1 = .ok (.iload_n 1, 1) := by decide +kernel
theorem dX5_set_2 : decode cX5_set 2 = .ok (.invokevirtual 51, 3) := by decide +kernel
theorem dX5_set_5 : decode cX5_set 5 = .ok (.getfield 58, 3) := by decide +kernel
theorem dX5_set_8 : decode cX5_set 8 = .ok (.astore 4, 2) := by decide +kernel
theorem dX5_set_10 : decode cX5_set 10 = .ok (.iload_n 2, 1) := by decide +kernel
theorem dX5_set_11 : decode cX5_set 11 = .ok (.iload_n 3, 1) := by decide +kernel
theorem dX5_set_12 : decode cX5_set 12 = .ok (.invokestatic 62, 3) := by decide +kernel
theorem dX5_set_15 : decode cX5_set 15 = .ok (.aload 4, 2) := by decide +kernel
theorem dX5_set_17 : decode cX5_set 17 = .ok (.iload_n 2, 1) := by decide +kernel
theorem dX5_set_18 : decode cX5_set 18 = .ok (.iload_n 3, 1) := by decide +kernel
theorem dX5_set_19 : decode cX5_set 19 = .ok (.invokevirtual 65, 3) := by decide +kernel
theorem dX5_set_22 : decode cX5_set 22 = .ok (.aload 4, 2) := by decide +kernel
theorem dX5_set_24 : decode cX5_set 24 = .ok (.iload_n 2, 1) := by decide +kernel
theorem dX5_set_25 : decode cX5_set 25 = .ok (.invokevirtual 70, 3) := by decide +kernel
theorem dX5_set_28 : decode cX5_set 28 = .ok (.ireturn, 1) := by decide +kernel
theorem dX5_jobs_0 : decode cX5_jobs 0 = .ok (.aload_n 0, 1) := by decide +kernel
theorem dX5_jobs_1 : decode cX5_jobs 1 = .ok (.getfield 10, 3) := by decide +kernel
theorem dX5_jobs_4 : decode cX5_jobs 4 = .ok (.invokevirtual 31, 3) := by decide +kernel
theorem dX5_jobs_7 : decode cX5_jobs 7 = .ok (.ireturn, 1) := by decide +kernel
theorem dX5_crew_0 : decode cX5_crew 0 = .ok (.aload_n 0, 1) := by decide +kernel
theorem dX5_crew_1 : decode cX5_crew 1 = .ok (.iload_n 1, 1) := by decide +kernel
theorem dX5_crew_2 : decode cX5_crew 2 = .ok (.invokevirtual 51, 3) := by decide +kernel
theorem dX5_crew_5 : decode cX5_crew 5 = .ok (.getfield 55, 3) := by decide +kernel
theorem dX5_crew_8 : decode cX5_crew 8 = .ok (.ireturn, 1) := by decide +kernel
theorem dX5_site_0 : decode cX5_site 0 = .ok (.aload_n 0, 1) := by decide +kernel
theorem dX5_site_1 : decode cX5_site 1 = .ok (.iload_n 1, 1) := by decide +kernel
theorem dX5_site_2 : decode cX5_site 2 = .ok (.invokevirtual 51, 3) := by decide +kernel
theorem dX5_site_5 : decode cX5_site 5 = .ok (.getfield 74, 3) := by decide +kernel
theorem dX5_site_8 : decode cX5_site 8 = .ok (.ireturn, 1) := by decide +kernel
theorem dX5_value_0 : decode cX5_value 0 = .ok (.aload_n 0, 1) := by decide +kernel
theorem dX5_value_1 : decode cX5_value 1 = .ok (.iload_n 1, 1) := by decide +kernel
theorem dX5_value_2 : decode cX5_value 2 = .ok (.invokevirtual 51, 3) := by decide +kernel
theorem dX5_value_5 : decode cX5_value 5 = .ok (.getfield 58, 3) := by decide +kernel
theorem dX5_value_8 : decode cX5_value 8 = .ok (.astore_n 3, 1) := by decide +kernel
theorem dX5_value_9 : decode cX5_value 9 = .ok (.iload_n 2, 1) := by decide +kernel
theorem dX5_value_10 : decode cX5_value 10 = .ok (.invokestatic 77, 3) := by decide +kernel
theorem dX5_value_13 : decode cX5_value 13 = .ok (.aload_n 3, 1) := by decide +kernel
theorem dX5_value_14 : decode cX5_value 14 = .ok (.iload_n 2, 1) := by decide +kernel
theorem dX5_value_15 : decode cX5_value 15 = .ok (.invokevirtual 81, 3) := by decide +kernel
theorem dX5_value_18 : decode cX5_value 18 = .ok (.ireturn, 1) := by decide +kernel
theorem dX5_version_0 : decode cX5_version 0 = .ok (.aload_n 0, 1) := by decide +kernel
theorem dX5_version_1 : decode cX5_version 1 = .ok (.iload_n 1, 1) := by decide +kernel
theorem dX5_version_2 : decode cX5_version 2 = .ok (.invokevirtual 51, 3) := by decide +kernel
theorem dX5_version_5 : decode cX5_version 5 = .ok (.getfield 58, 3) := by decide +kernel
theorem dX5_version_8 : decode cX5_version 8 = .ok (.astore_n 3, 1) := by decide +kernel
theorem dX5_version_9 : decode cX5_version 9 = .ok (.iload_n 2, 1) := by decide +kernel
theorem dX5_version_10 : decode cX5_version 10 = .ok (.invokestatic 77, 3) := by decide +kernel
theorem dX5_version_13 : decode cX5_version 13 = .ok (.aload_n 3, 1) := by decide +kernel
theorem dX5_version_14 : decode cX5_version 14 = .ok (.iload_n 2, 1) := by decide +kernel
theorem dX5_version_15 : decode cX5_version 15 = .ok (.invokevirtual 70, 3) := by decide +kernel
theorem dX5_version_18 : decode cX5_version 18 = .ok (.ireturn, 1) := by decide +kernel
theorem dX5_setRoom_0 : decode cX5_setRoom 0 = .ok (.aload_n 0, 1) := by decide +kernel
theorem dX5_setRoom_1 : decode cX5_setRoom 1 = .ok (.iload_n 1, 1) := by decide +kernel
theorem dX5_setRoom_2 : decode cX5_setRoom 2 = .ok (.invokevirtual 84, 3) := by decide +kernel
theorem dX5_setRoom_5 : decode cX5_setRoom 5 = .ok (.astore_n 3, 1) := by decide +kernel
theorem dX5_setRoom_6 : decode cX5_setRoom 6 = .ok (.iload_n 2, 1) := by decide +kernel
theorem dX5_setRoom_7 : decode cX5_setRoom 7 = .ok (.iconst 0, 1) := by decide +kernel
theorem dX5_setRoom_8 : decode cX5_setRoom 8 = .ok (.bipush 40, 2) := by decide +kernel
theorem dX5_setRoom_10 : decode cX5_setRoom 10 = .ok (.invokestatic 27, 3) := by decide +kernel
theorem dX5_setRoom_13 : decode cX5_setRoom 13 = .ok (.aload_n 3, 1) := by decide +kernel
theorem dX5_setRoom_14 : decode cX5_setRoom 14 = .ok (.getfield 88, 3) := by decide +kernel
theorem dX5_setRoom_17 : decode cX5_setRoom 17 = .ok (.istore 4, 2) := by decide +kernel
theorem dX5_setRoom_19 : decode cX5_setRoom 19 = .ok (.aload_n 3, 1) := by decide +kernel
theorem dX5_setRoom_20 : decode cX5_setRoom 20 = .ok (.iload_n 2, 1) := by decide +kernel
theorem dX5_setRoom_21 : decode cX5_setRoom 21 = .ok (.putfield 88, 3) := by decide +kernel
theorem dX5_setRoom_24 : decode cX5_setRoom 24 = .ok (.iload 4, 2) := by decide +kernel
theorem dX5_setRoom_26 : decode cX5_setRoom 26 = .ok (.ireturn, 1) := by decide +kernel
theorem dX5_fetch_0 : decode cX5_fetch 0 = .ok (.aload_n 0, 1) := by decide +kernel
theorem dX5_fetch_1 : decode cX5_fetch 1 = .ok (.iload_n 1, 1) := by decide +kernel
theorem dX5_fetch_2 : decode cX5_fetch 2 = .ok (.invokevirtual 84, 3) := by decide +kernel
theorem dX5_fetch_5 : decode cX5_fetch 5 = .ok (.astore_n 2, 1) := by decide +kernel
theorem dX5_fetch_6 : decode cX5_fetch 6 = .ok (.aload_n 2, 1) := by decide +kernel
theorem dX5_fetch_7 : decode cX5_fetch 7 = .ok (.invokevirtual 91, 3) := by decide +kernel
theorem dX5_fetch_10 : decode cX5_fetch 10 = .ok (.aload_n 0, 1) := by decide +kernel
theorem dX5_fetch_11 : decode cX5_fetch 11 = .ok (.iload_n 1, 1) := by decide +kernel
theorem dX5_fetch_12 : decode cX5_fetch 12 = .ok (.aload_n 2, 1) := by decide +kernel
theorem dX5_fetch_13 : decode cX5_fetch 13 = .ok (.iconst 1, 1) := by decide +kernel
theorem dX5_fetch_14 : decode cX5_fetch 14 = .ok (.invokevirtual 94, 3) := by decide +kernel
theorem dX5_fetch_17 : decode cX5_fetch 17 = .ok (.aload_n 0, 1) := by decide +kernel
theorem dX5_fetch_18 : decode cX5_fetch 18 = .ok (.iload_n 1, 1) := by decide +kernel
theorem dX5_fetch_19 : decode cX5_fetch 19 = .ok (.aload_n 2, 1) := by decide +kernel
theorem dX5_fetch_20 : decode cX5_fetch 20 = .ok (.iconst 0, 1) := by decide +kernel
theorem dX5_fetch_21 : decode cX5_fetch 21 = .ok (.invokevirtual 94, 3) := by decide +kernel
theorem dX5_fetch_24 : decode cX5_fetch 24 = .ok (.aload_n 0, 1) := by decide +kernel
theorem dX5_fetch_25 : decode cX5_fetch 25 = .ok (.iload_n 1, 1) := by decide +kernel
theorem dX5_fetch_26 : decode cX5_fetch 26 = .ok (.aload_n 2, 1) := by decide +kernel
theorem dX5_fetch_27 : decode cX5_fetch 27 = .ok (.iconst 2, 1) := by decide +kernel
theorem dX5_fetch_28 : decode cX5_fetch 28 = .ok (.invokevirtual 94, 3) := by decide +kernel
theorem dX5_fetch_31 : decode cX5_fetch 31 = .ok (.aload_n 2, 1) := by decide +kernel
theorem dX5_fetch_32 : decode cX5_fetch 32 = .ok (.invokevirtual 98, 3) := by decide +kernel
theorem dX5_fetch_35 : decode cX5_fetch 35 = .ok (.ireturn, 1) := by decide +kernel
theorem dX5_held_0 : decode cX5_held 0 = .ok (.aload_n 0, 1) := by decide +kernel
theorem dX5_held_1 : decode cX5_held 1 = .ok (.iload_n 1, 1) := by decide +kernel
theorem dX5_held_2 : decode cX5_held 2 = .ok (.invokevirtual 84, 3) := by decide +kernel
theorem dX5_held_5 : decode cX5_held 5 = .ok (.invokevirtual 98, 3) := by decide +kernel
theorem dX5_held_8 : decode cX5_held 8 = .ok (.ireturn, 1) := by decide +kernel
theorem dX5_holds_0 : decode cX5_holds 0 = .ok (.aload_n 0, 1) := by decide +kernel
theorem dX5_holds_1 : decode cX5_holds 1 = .ok (.iload_n 1, 1) := by decide +kernel
theorem dX5_holds_2 : decode cX5_holds 2 = .ok (.invokevirtual 84, 3) := by decide +kernel
theorem dX5_holds_5 : decode cX5_holds 5 = .ok (.iload_n 2, 1) := by decide +kernel
theorem dX5_holds_6 : decode cX5_holds 6 = .ok (.invokevirtual 101, 3) := by decide +kernel
theorem dX5_holds_9 : decode cX5_holds 9 = .ok (.ifnull 7, 3) := by decide +kernel
theorem dX5_holds_12 : decode cX5_holds 12 = .ok (.iconst 1, 1) := by decide +kernel
theorem dX5_holds_13 : decode cX5_holds 13 = .ok (.goto 4, 3) := by decide +kernel
theorem dX5_holds_16 : decode cX5_holds 16 = .ok (.iconst 0, 1) := by decide +kernel
theorem dX5_holds_17 : decode cX5_holds 17 = .ok (.ireturn, 1) := by decide +kernel
theorem dX5_heldValue_0 : decode cX5_heldValue 0 = .ok (.aload_n 0, 1) := by decide +kernel
theorem dX5_heldValue_1 : decode cX5_heldValue 1 = .ok (.iload_n 1, 1) := by decide +kernel
theorem dX5_heldValue_2 : decode cX5_heldValue 2 = .ok (.invokevirtual 84, 3) := by decide +kernel
theorem dX5_heldValue_5 : decode cX5_heldValue 5 = .ok (.astore 4, 2) := by decide +kernel
theorem dX5_heldValue_7 : decode cX5_heldValue 7 = .ok (.iload_n 3, 1) := by decide +kernel
theorem dX5_heldValue_8 : decode cX5_heldValue 8 = .ok (.invokestatic 77, 3) := by decide +kernel
theorem dX5_heldValue_11 : decode cX5_heldValue 11 = .ok (.aload 4, 2) := by decide +kernel
theorem dX5_heldValue_13 : decode cX5_heldValue 13 = .ok (.iload_n 2, 1) := by decide +kernel
theorem dX5_heldValue_14 : decode cX5_heldValue 14 = .ok (.invokestatic 105, 3) := by decide +kernel
theorem dX5_heldValue_17 : decode cX5_heldValue 17 = .ok (.iload_n 3, 1) := by decide +kernel
theorem dX5_heldValue_18 : decode cX5_heldValue 18 = .ok (.invokevirtual 81, 3) := by decide +kernel
theorem dX5_heldValue_21 : decode cX5_heldValue 21 = .ok (.ireturn, 1) := by decide +kernel
theorem dX5_change_0 : decode cX5_change 0 = .ok (.aload_n 0, 1) := by decide +kernel
theorem dX5_change_1 : decode cX5_change 1 = .ok (.iload_n 1, 1) := by decide +kernel
theorem dX5_change_2 : decode cX5_change 2 = .ok (.invokevirtual 84, 3) := by decide +kernel
theorem dX5_change_5 : decode cX5_change 5 = .ok (.astore 5, 2) := by decide +kernel
theorem dX5_change_7 : decode cX5_change 7 = .ok (.iload_n 3, 1) := by decide +kernel
theorem dX5_change_8 : decode cX5_change 8 = .ok (.iload 4, 2) := by decide +kernel
theorem dX5_change_10 : decode cX5_change 10 = .ok (.invokestatic 62, 3) := by decide +kernel
theorem dX5_change_13 : decode cX5_change 13 = .ok (.aload 5, 2) := by decide +kernel
theorem dX5_change_15 : decode cX5_change 15 = .ok (.iload_n 2, 1) := by decide +kernel
theorem dX5_change_16 : decode cX5_change 16 = .ok (.invokestatic 105, 3) := by decide +kernel
theorem dX5_change_19 : decode cX5_change 19 = .ok (.astore 6, 2) := by decide +kernel
theorem dX5_change_21 : decode cX5_change 21 = .ok (.aload 5, 2) := by decide +kernel
theorem dX5_change_23 : decode cX5_change 23 = .ok (.invokevirtual 109, 3) := by decide +kernel
theorem dX5_change_26 : decode cX5_change 26 = .ok (.ifCond .eq 14, 3) := by decide +kernel
theorem dX5_change_29 : decode cX5_change 29 = .ok (.aload 5, 2) := by decide +kernel
theorem dX5_change_31 : decode cX5_change 31 = .ok (.iload_n 2, 1) := by decide +kernel
theorem dX5_change_32 : decode cX5_change 32 = .ok (.aload 6, 2) := by decide +kernel
theorem dX5_change_34 : decode cX5_change 34 = .ok (.iload_n 3, 1) := by decide +kernel
theorem dX5_change_35 : decode cX5_change 35 = .ok (.iload 4, 2) := by decide +kernel
theorem dX5_change_37 : decode cX5_change 37 = .ok (.invokevirtual 113, 3) := by decide +kernel
theorem dX5_change_40 : decode cX5_change 40 = .ok (.aload 5, 2) := by decide +kernel
theorem dX5_change_42 : decode cX5_change 42 = .ok (.invokevirtual 117, 3) := by decide +kernel
theorem dX5_change_45 : decode cX5_change 45 = .ok (.ireturn, 1) := by decide +kernel
theorem dX5_make_0 : decode cX5_make 0 = .ok (.aload_n 0, 1) := by decide +kernel
theorem dX5_make_1 : decode cX5_make 1 = .ok (.iload_n 1, 1) := by decide +kernel
theorem dX5_make_2 : decode cX5_make 2 = .ok (.invokevirtual 84, 3) := by decide +kernel
theorem dX5_make_5 : decode cX5_make 5 = .ok (.astore_n 3, 1) := by decide +kernel
theorem dX5_make_6 : decode cX5_make 6 = .ok (.iload_n 2, 1) := by decide +kernel
theorem dX5_make_7 : decode cX5_make 7 = .ok (.iconst 0, 1) := by decide +kernel
theorem dX5_make_8 : decode cX5_make 8 = .ok (.bipush 9, 2) := by decide +kernel
theorem dX5_make_10 : decode cX5_make 10 = .ok (.invokestatic 27, 3) := by decide +kernel
theorem dX5_make_13 : decode cX5_make 13 = .ok (.aload_n 3, 1) := by decide +kernel
theorem dX5_make_14 : decode cX5_make 14 = .ok (.invokevirtual 109, 3) := by decide +kernel
theorem dX5_make_17 : decode cX5_make 17 = .ok (.ifCond .ne 5, 3) := by decide +kernel
theorem dX5_make_20 : decode cX5_make 20 = .ok (.iconst (-1), 1) := by decide +kernel
theorem dX5_make_21 : decode cX5_make 21 = .ok (.ireturn, 1) := by decide +kernel
theorem dX5_make_22 : decode cX5_make 22 = .ok (.aload_n 3, 1) := by decide +kernel
theorem dX5_make_23 : decode cX5_make 23 = .ok (.iload_n 2, 1) := by decide +kernel
theorem dX5_make_24 : decode cX5_make 24 = .ok (.invokevirtual 120, 3) := by decide +kernel
theorem dX5_make_27 : decode cX5_make 27 = .ok (.ireturn, 1) := by decide +kernel
theorem dX5_numberOf_0 : decode cX5_numberOf 0 = .ok (.aload_n 0, 1) := by decide +kernel
theorem dX5_numberOf_1 : decode cX5_numberOf 1 = .ok (.iload_n 1, 1) := by decide +kernel
theorem dX5_numberOf_2 : decode cX5_numberOf 2 = .ok (.invokevirtual 84, 3) := by decide +kernel
theorem dX5_numberOf_5 : decode cX5_numberOf 5 = .ok (.iload_n 2, 1) := by decide +kernel
theorem dX5_numberOf_6 : decode cX5_numberOf 6 = .ok (.invokevirtual 123, 3) := by decide +kernel
theorem dX5_numberOf_9 : decode cX5_numberOf 9 = .ok (.astore_n 3, 1) := by decide +kernel
theorem dX5_numberOf_10 : decode cX5_numberOf 10 = .ok (.aload_n 3, 1) := by decide +kernel
theorem dX5_numberOf_11 : decode cX5_numberOf 11 = .ok (.ifnonnull 13, 3) := by decide +kernel
theorem dX5_numberOf_14 : decode cX5_numberOf 14 = .ok (.new 127, 3) := by decide +kernel
theorem dX5_numberOf_17 : decode cX5_numberOf 17 = .ok (.dup, 1) := by decide +kernel
theorem dX5_numberOf_18 : decode cX5_numberOf 18 = .ok (.ldc 129, 2) := by decide +kernel
theorem dX5_numberOf_20 : decode cX5_numberOf 20 = .ok (.invokespecial 131, 3) := by decide +kernel
theorem dX5_numberOf_23 : decode cX5_numberOf 23 = .ok (.athrow, 1) := by decide +kernel
theorem dX5_numberOf_24 : decode cX5_numberOf 24 = .ok (.aload_n 3, 1) := by decide +kernel
theorem dX5_numberOf_25 : decode cX5_numberOf 25 = .ok (.getfield 132, 3) := by decide +kernel
theorem dX5_numberOf_28 : decode cX5_numberOf 28 = .ok (.ireturn, 1) := by decide +kernel
theorem dX5_send_0 : decode cX5_send 0 = .ok (.aload_n 0, 1) := by decide +kernel
theorem dX5_send_1 : decode cX5_send 1 = .ok (.iload_n 1, 1) := by decide +kernel
theorem dX5_send_2 : decode cX5_send 2 = .ok (.invokevirtual 84, 3) := by decide +kernel
theorem dX5_send_5 : decode cX5_send 5 = .ok (.astore_n 3, 1) := by decide +kernel
theorem dX5_send_6 : decode cX5_send 6 = .ok (.iload_n 2, 1) := by decide +kernel
theorem dX5_send_7 : decode cX5_send 7 = .ok (.iconst 1, 1) := by decide +kernel
theorem dX5_send_8 : decode cX5_send 8 = .ok (.bipush 100, 2) := by decide +kernel
theorem dX5_send_10 : decode cX5_send 10 = .ok (.invokestatic 27, 3) := by decide +kernel
theorem dX5_send_13 : decode cX5_send 13 = .ok (.iconst 0, 1) := by decide +kernel
theorem dX5_send_14 : decode cX5_send 14 = .ok (.istore 4, 2) := by decide +kernel
theorem dX5_send_16 : decode cX5_send 16 = .ok (.iconst 0, 1) := by decide +kernel
theorem dX5_send_17 : decode cX5_send 17 = .ok (.istore 5, 2) := by decide +kernel
theorem dX5_send_19 : decode cX5_send 19 = .ok (.iload 5, 2) := by decide +kernel
theorem dX5_send_21 : decode cX5_send 21 = .ok (.iload_n 2, 1) := by decide +kernel
theorem dX5_send_22 : decode cX5_send 22 = .ok (.if_icmp .ge 53, 3) := by decide +kernel
theorem dX5_send_25 : decode cX5_send 25 = .ok (.aload_n 3, 1) := by decide +kernel
theorem dX5_send_26 : decode cX5_send 26 = .ok (.invokevirtual 137, 3) := by decide +kernel
theorem dX5_send_29 : decode cX5_send 29 = .ok (.astore 6, 2) := by decide +kernel
theorem dX5_send_31 : decode cX5_send 31 = .ok (.aload 6, 2) := by decide +kernel
theorem dX5_send_33 : decode cX5_send 33 = .ok (.ifnonnull 6, 3) := by decide +kernel
theorem dX5_send_36 : decode cX5_send 36 = .ok (.goto 39, 3) := by decide +kernel
theorem dX5_send_39 : decode cX5_send 39 = .ok (.aload_n 0, 1) := by decide +kernel
theorem dX5_send_40 : decode cX5_send 40 = .ok (.iload_n 1, 1) := by decide +kernel
theorem dX5_send_41 : decode cX5_send 41 = .ok (.aload_n 3, 1) := by decide +kernel
theorem dX5_send_42 : decode cX5_send 42 = .ok (.aload 6, 2) := by decide +kernel
theorem dX5_send_44 : decode cX5_send 44 = .ok (.invokevirtual 141, 3) := by decide +kernel
theorem dX5_send_47 : decode cX5_send 47 = .ok (.istore 7, 2) := by decide +kernel
theorem dX5_send_49 : decode cX5_send 49 = .ok (.iload 7, 2) := by decide +kernel
theorem dX5_send_51 : decode cX5_send 51 = .ok (.iconst (-1), 1) := by decide +kernel
theorem dX5_send_52 : decode cX5_send 52 = .ok (.if_icmp .ne 9, 3) := by decide +kernel
theorem dX5_send_55 : decode cX5_send 55 = .ok (.iinc 4 1, 3) := by decide +kernel
theorem dX5_send_58 : decode cX5_send 58 = .ok (.goto 11, 3) := by decide +kernel
theorem dX5_send_61 : decode cX5_send 61 = .ok (.aload_n 3, 1) := by decide +kernel
theorem dX5_send_62 : decode cX5_send 62 = .ok (.aload 6, 2) := by decide +kernel
theorem dX5_send_64 : decode cX5_send 64 = .ok (.iload 7, 2) := by decide +kernel
theorem dX5_send_66 : decode cX5_send 66 = .ok (.invokevirtual 145, 3) := by decide +kernel
theorem dX5_send_69 : decode cX5_send 69 = .ok (.iinc 5 1, 3) := by decide +kernel
theorem dX5_send_72 : decode cX5_send 72 = .ok (.goto (-53), 3) := by decide +kernel
theorem dX5_send_75 : decode cX5_send 75 = .ok (.aload_n 0, 1) := by decide +kernel
theorem dX5_send_76 : decode cX5_send 76 = .ok (.dup, 1) := by decide +kernel
theorem dX5_send_77 : decode cX5_send 77 = .ok (.getfield 22, 3) := by decide +kernel
theorem dX5_send_80 : decode cX5_send 80 = .ok (.iload 4, 2) := by decide +kernel
theorem dX5_send_82 : decode cX5_send 82 = .ok (.iadd, 1) := by decide +kernel
theorem dX5_send_83 : decode cX5_send 83 = .ok (.putfield 22, 3) := by decide +kernel
theorem dX5_send_86 : decode cX5_send 86 = .ok (.iload 4, 2) := by decide +kernel
theorem dX5_send_88 : decode cX5_send 88 = .ok (.ireturn, 1) := by decide +kernel
theorem dX5_waiting_0 : decode cX5_waiting 0 = .ok (.aload_n 0, 1) := by decide +kernel
theorem dX5_waiting_1 : decode cX5_waiting 1 = .ok (.iload_n 1, 1) := by decide +kernel
theorem dX5_waiting_2 : decode cX5_waiting 2 = .ok (.invokevirtual 84, 3) := by decide +kernel
theorem dX5_waiting_5 : decode cX5_waiting 5 = .ok (.invokevirtual 117, 3) := by decide +kernel
theorem dX5_waiting_8 : decode cX5_waiting 8 = .ok (.ireturn, 1) := by decide +kernel
theorem dX5_pile_0 : decode cX5_pile 0 = .ok (.aload_n 0, 1) := by decide +kernel
theorem dX5_pile_1 : decode cX5_pile 1 = .ok (.iload_n 1, 1) := by decide +kernel
theorem dX5_pile_2 : decode cX5_pile 2 = .ok (.invokevirtual 84, 3) := by decide +kernel
theorem dX5_pile_5 : decode cX5_pile 5 = .ok (.getfield 149, 3) := by decide +kernel
theorem dX5_pile_8 : decode cX5_pile 8 = .ok (.invokevirtual 31, 3) := by decide +kernel
theorem dX5_pile_11 : decode cX5_pile 11 = .ok (.ireturn, 1) := by decide +kernel
theorem dX5_reason_0 : decode cX5_reason 0 = .ok (.aload_n 0, 1) := by decide +kernel
theorem dX5_reason_1 : decode cX5_reason 1 = .ok (.iload_n 1, 1) := by decide +kernel
theorem dX5_reason_2 : decode cX5_reason 2 = .ok (.iload_n 2, 1) := by decide +kernel
theorem dX5_reason_3 : decode cX5_reason 3 = .ok (.invokevirtual 152, 3) := by decide +kernel
theorem dX5_reason_6 : decode cX5_reason 6 = .ok (.getfield 156, 3) := by decide +kernel
theorem dX5_reason_9 : decode cX5_reason 9 = .ok (.ireturn, 1) := by decide +kernel
theorem dX5_refusedValue_0 : decode cX5_refusedValue 0 = .ok (.aload_n 0, 1) := by decide +kernel
theorem dX5_refusedValue_1 : decode cX5_refusedValue 1 = .ok (.iload_n 1, 1) := by decide +kernel
theorem dX5_refusedValue_2 : decode cX5_refusedValue 2 = .ok (.iload_n 2, 1) := by decide +kernel
theorem dX5_refusedValue_3 : decode cX5_refusedValue 3 = .ok (.invokevirtual 152, 3) := by decide +kernel
theorem dX5_refusedValue_6 : decode cX5_refusedValue 6 = .ok (.getfield 161, 3) := by decide +kernel
theorem dX5_refusedValue_9 : decode cX5_refusedValue 9 = .ok (.ireturn, 1) := by decide +kernel
theorem dX5_done_0 : decode cX5_done 0 = .ok (.aload_n 0, 1) := by decide +kernel
theorem dX5_done_1 : decode cX5_done 1 = .ok (.getfield 22, 3) := by decide +kernel
theorem dX5_done_4 : decode cX5_done 4 = .ok (.ireturn, 1) := by decide +kernel
theorem dX5_copyJobs_0 : decode cX5_copyJobs 0 = .ok (.iconst 0, 1) := by decide +kernel
theorem dX5_copyJobs_1 : decode cX5_copyJobs 1 = .ok (.istore 4, 2) := by decide +kernel
theorem dX5_copyJobs_3 : decode cX5_copyJobs 3 = .ok (.iload 4, 2) := by decide +kernel
theorem dX5_copyJobs_5 : decode cX5_copyJobs 5 = .ok (.aload_n 0, 1) := by decide +kernel
theorem dX5_copyJobs_6 : decode cX5_copyJobs 6 = .ok (.getfield 10, 3) := by decide +kernel
theorem dX5_copyJobs_9 : decode cX5_copyJobs 9 = .ok (.invokevirtual 31, 3) := by decide +kernel
theorem dX5_copyJobs_12 : decode cX5_copyJobs 12 = .ok (.if_icmp .ge 66, 3) := by decide +kernel
theorem dX5_copyJobs_15 : decode cX5_copyJobs 15 = .ok (.aload_n 0, 1) := by decide +kernel
theorem dX5_copyJobs_16 : decode cX5_copyJobs 16 = .ok (.getfield 10, 3) := by decide +kernel
theorem dX5_copyJobs_19 : decode cX5_copyJobs 19 = .ok (.iload 4, 2) := by decide +kernel
theorem dX5_copyJobs_21 : decode cX5_copyJobs 21 = .ok (.invokevirtual 164, 3) := by decide +kernel
theorem dX5_copyJobs_24 : decode cX5_copyJobs 24 = .ok (.checkcast 42, 3) := by decide +kernel
theorem dX5_copyJobs_27 : decode cX5_copyJobs 27 = .ok (.astore 5, 2) := by decide +kernel
theorem dX5_copyJobs_29 : decode cX5_copyJobs 29 = .ok (.aload_n 2, 1) := by decide +kernel
theorem dX5_copyJobs_30 : decode cX5_copyJobs 30 = .ok (.getfield 168, 3) := by decide +kernel
theorem dX5_copyJobs_33 : decode cX5_copyJobs 33 = .ok (.aload_n 2, 1) := by decide +kernel
theorem dX5_copyJobs_34 : decode cX5_copyJobs 34 = .ok (.getfield 88, 3) := by decide +kernel
theorem dX5_copyJobs_37 : decode cX5_copyJobs 37 = .ok (.if_icmp .ge 35, 3) := by decide +kernel
theorem dX5_copyJobs_40 : decode cX5_copyJobs 40 = .ok (.aload 5, 2) := by decide +kernel
theorem dX5_copyJobs_42 : decode cX5_copyJobs 42 = .ok (.getfield 55, 3) := by decide +kernel
theorem dX5_copyJobs_45 : decode cX5_copyJobs 45 = .ok (.iload_n 1, 1) := by decide +kernel
theorem dX5_copyJobs_46 : decode cX5_copyJobs 46 = .ok (.if_icmp .ne 26, 3) := by decide +kernel
theorem dX5_copyJobs_49 : decode cX5_copyJobs 49 = .ok (.aload 5, 2) := by decide +kernel
theorem dX5_copyJobs_51 : decode cX5_copyJobs 51 = .ok (.getfield 58, 3) := by decide +kernel
theorem dX5_copyJobs_54 : decode cX5_copyJobs 54 = .ok (.getfield 171, 3) := by decide +kernel
theorem dX5_copyJobs_57 : decode cX5_copyJobs 57 = .ok (.iload_n 3, 1) := by decide +kernel
theorem dX5_copyJobs_58 : decode cX5_copyJobs 58 = .ok (.if_icmp .ne 14, 3) := by decide +kernel
theorem dX5_copyJobs_61 : decode cX5_copyJobs 61 = .ok (.aload_n 2, 1) := by decide +kernel
theorem dX5_copyJobs_62 : decode cX5_copyJobs 62 = .ok (.iload 4, 2) := by decide +kernel
theorem dX5_copyJobs_64 : decode cX5_copyJobs 64 = .ok (.aload 5, 2) := by decide +kernel
theorem dX5_copyJobs_66 : decode cX5_copyJobs 66 = .ok (.getfield 58, 3) := by decide +kernel
theorem dX5_copyJobs_69 : decode cX5_copyJobs 69 = .ok (.invokevirtual 174, 3) := by decide +kernel
theorem dX5_copyJobs_72 : decode cX5_copyJobs 72 = .ok (.iinc 4 1, 3) := by decide +kernel
theorem dX5_copyJobs_75 : decode cX5_copyJobs 75 = .ok (.goto (-72), 3) := by decide +kernel
theorem dX5_copyJobs_78 : decode cX5_copyJobs 78 = .ok (.return_, 1) := by decide +kernel
theorem dX5_deliver_0 : decode cX5_deliver 0 = .ok (.aload_n 3, 1) := by decide +kernel
theorem dX5_deliver_1 : decode cX5_deliver 1 = .ok (.getfield 178, 3) := by decide +kernel
theorem dX5_deliver_4 : decode cX5_deliver 4 = .ok (.iconst (-1), 1) := by decide +kernel
theorem dX5_deliver_5 : decode cX5_deliver 5 = .ok (.if_icmp .ne 13, 3) := by decide +kernel
theorem dX5_deliver_8 : decode cX5_deliver 8 = .ok (.aload_n 0, 1) := by decide +kernel
theorem dX5_deliver_9 : decode cX5_deliver 9 = .ok (.iload_n 1, 1) := by decide +kernel
theorem dX5_deliver_10 : decode cX5_deliver 10 = .ok (.aload_n 2, 1) := by decide +kernel
theorem dX5_deliver_11 : decode cX5_deliver 11 = .ok (.aload_n 3, 1) := by decide +kernel
theorem dX5_deliver_12 : decode cX5_deliver 12 = .ok (.invokevirtual 181, 3) := by decide +kernel
theorem dX5_deliver_15 : decode cX5_deliver 15 = .ok (.goto 10, 3) := by decide +kernel
theorem dX5_deliver_18 : decode cX5_deliver 18 = .ok (.aload_n 0, 1) := by decide +kernel
theorem dX5_deliver_19 : decode cX5_deliver 19 = .ok (.iload_n 1, 1) := by decide +kernel
theorem dX5_deliver_20 : decode cX5_deliver 20 = .ok (.aload_n 2, 1) := by decide +kernel
theorem dX5_deliver_21 : decode cX5_deliver 21 = .ok (.aload_n 3, 1) := by decide +kernel
theorem dX5_deliver_22 : decode cX5_deliver 22 = .ok (.invokevirtual 184, 3) := by decide +kernel
theorem dX5_deliver_25 : decode cX5_deliver 25 = .ok (.ireturn, 1) := by decide +kernel
theorem dX5_deliverMaking_0 : decode cX5_deliverMaking 0 = .ok (.aload_n 2, 1) := by decide +kernel
theorem dX5_deliverMaking_1 : decode cX5_deliverMaking 1 = .ok (.aload_n 3, 1) := by decide +kernel
theorem dX5_deliverMaking_2 : decode cX5_deliverMaking 2 = .ok (.getfield 187, 3) := by decide +kernel
theorem dX5_deliverMaking_5 : decode cX5_deliverMaking 5 = .ok (.invokevirtual 123, 3) := by decide +kernel
theorem dX5_deliverMaking_8 : decode cX5_deliverMaking 8 = .ok (.astore 4, 2) := by decide +kernel
theorem dX5_deliverMaking_10 : decode cX5_deliverMaking 10 = .ok (.aload 4, 2) := by decide +kernel
theorem dX5_deliverMaking_12 : decode cX5_deliverMaking 12 = .ok (.ifnull 15, 3) := by decide +kernel
theorem dX5_deliverMaking_15 : decode cX5_deliverMaking 15 = .ok (.aload_n 0, 1) := by decide +kernel
theorem dX5_deliverMaking_16 : decode cX5_deliverMaking 16 = .ok (.getfield 10, 3) := by decide +kernel
theorem dX5_deliverMaking_19 : decode cX5_deliverMaking 19 = .ok (.invokevirtual 31, 3) := by decide +kernel
theorem dX5_deliverMaking_22 : decode cX5_deliverMaking 22 = .ok (.bipush 40, 2) := by decide +kernel
theorem dX5_deliverMaking_24 : decode cX5_deliverMaking 24 = .ok (.if_icmp .lt 5, 3) := by decide +kernel
theorem dX5_deliverMaking_27 : decode cX5_deliverMaking 27 = .ok (.iconst 3, 1) := by decide +kernel
theorem dX5_deliverMaking_28 : decode cX5_deliverMaking 28 = .ok (.ireturn, 1) := by decide +kernel
theorem dX5_deliverMaking_29 : decode cX5_deliverMaking 29 = .ok (.aload_n 2, 1) := by decide +kernel
theorem dX5_deliverMaking_30 : decode cX5_deliverMaking 30 = .ok (.aload 4, 2) := by decide +kernel
theorem dX5_deliverMaking_32 : decode cX5_deliverMaking 32 = .ok (.aload_n 0, 1) := by decide +kernel
theorem dX5_deliverMaking_33 : decode cX5_deliverMaking 33 = .ok (.getfield 10, 3) := by decide +kernel
theorem dX5_deliverMaking_36 : decode cX5_deliverMaking 36 = .ok (.invokevirtual 31, 3) := by decide +kernel
theorem dX5_deliverMaking_39 : decode cX5_deliverMaking 39 = .ok (.invokevirtual 190, 3) := by decide +kernel
theorem dX5_deliverMaking_42 : decode cX5_deliverMaking 42 = .ok (.aload_n 0, 1) := by decide +kernel
theorem dX5_deliverMaking_43 : decode cX5_deliverMaking 43 = .ok (.getfield 10, 3) := by decide +kernel
theorem dX5_deliverMaking_46 : decode cX5_deliverMaking 46 = .ok (.new 42, 3) := by decide +kernel
theorem dX5_deliverMaking_49 : decode cX5_deliverMaking 49 = .ok (.dup, 1) := by decide +kernel
theorem dX5_deliverMaking_50 : decode cX5_deliverMaking 50 = .ok (.iload_n 1, 1) := by decide +kernel
theorem dX5_deliverMaking_51 : decode cX5_deliverMaking 51 = .ok (.aload_n 3, 1) := by decide +kernel
theorem dX5_deliverMaking_52 : decode cX5_deliverMaking 52 = .ok (.getfield 161, 3) := by decide +kernel
theorem dX5_deliverMaking_55 : decode cX5_deliverMaking 55 = .ok (.invokespecial 44, 3) := by decide +kernel
theorem dX5_deliverMaking_58 : decode cX5_deliverMaking 58 = .ok (.invokevirtual 47, 3) := by decide +kernel
theorem dX5_deliverMaking_61 : decode cX5_deliverMaking 61 = .ok (.pop, 1) := by decide +kernel
theorem dX5_deliverMaking_62 : decode cX5_deliverMaking 62 = .ok (.iconst (-1), 1) := by decide +kernel
theorem dX5_deliverMaking_63 : decode cX5_deliverMaking 63 = .ok (.ireturn, 1) := by decide +kernel
theorem dX5_deliverChange_0 : decode cX5_deliverChange 0 = .ok (.aload_n 2, 1) := by decide +kernel
theorem dX5_deliverChange_1 : decode cX5_deliverChange 1 = .ok (.aload_n 3, 1) := by decide +kernel
theorem dX5_deliverChange_2 : decode cX5_deliverChange 2 = .ok (.getfield 187, 3) := by decide +kernel
theorem dX5_deliverChange_5 : decode cX5_deliverChange 5 = .ok (.invokevirtual 194, 3) := by decide +kernel
theorem dX5_deliverChange_8 : decode cX5_deliverChange 8 = .ok (.istore 4, 2) := by decide +kernel
theorem dX5_deliverChange_10 : decode cX5_deliverChange 10 = .ok (.iload 4, 2) := by decide +kernel
theorem dX5_deliverChange_12 : decode cX5_deliverChange 12 = .ok (.ifCond .lt 15, 3) := by decide +kernel
theorem dX5_deliverChange_15 : decode cX5_deliverChange 15 = .ok (.iload 4, 2) := by decide +kernel
theorem dX5_deliverChange_17 : decode cX5_deliverChange 17 = .ok (.aload_n 0, 1) := by decide +kernel
theorem dX5_deliverChange_18 : decode cX5_deliverChange 18 = .ok (.getfield 10, 3) := by decide +kernel
theorem dX5_deliverChange_21 : decode cX5_deliverChange 21 = .ok (.invokevirtual 31, 3) := by decide +kernel
theorem dX5_deliverChange_24 : decode cX5_deliverChange 24 = .ok (.if_icmp .lt 5, 3) := by decide +kernel
theorem dX5_deliverChange_27 : decode cX5_deliverChange 27 = .ok (.iconst 3, 1) := by decide +kernel
theorem dX5_deliverChange_28 : decode cX5_deliverChange 28 = .ok (.ireturn, 1) := by decide +kernel
theorem dX5_deliverChange_29 : decode cX5_deliverChange 29 = .ok (.aload_n 0, 1) := by decide +kernel
theorem dX5_deliverChange_30 : decode cX5_deliverChange 30 = .ok (.getfield 10, 3) := by decide +kernel
theorem dX5_deliverChange_33 : decode cX5_deliverChange 33 = .ok (.iload 4, 2) := by decide +kernel
theorem dX5_deliverChange_35 : decode cX5_deliverChange 35 = .ok (.invokevirtual 164, 3) := by decide +kernel
theorem dX5_deliverChange_38 : decode cX5_deliverChange 38 = .ok (.checkcast 42, 3) := by decide +kernel
theorem dX5_deliverChange_41 : decode cX5_deliverChange 41 = .ok (.astore 5, 2) := by decide +kernel
theorem dX5_deliverChange_43 : decode cX5_deliverChange 43 = .ok (.aload 5, 2) := by decide +kernel
theorem dX5_deliverChange_45 : decode cX5_deliverChange 45 = .ok (.getfield 55, 3) := by decide +kernel
theorem dX5_deliverChange_48 : decode cX5_deliverChange 48 = .ok (.iload_n 1, 1) := by decide +kernel
theorem dX5_deliverChange_49 : decode cX5_deliverChange 49 = .ok (.if_icmp .eq 5, 3) := by decide +kernel
theorem dX5_deliverChange_52 : decode cX5_deliverChange 52 = .ok (.iconst 0, 1) := by decide +kernel
theorem dX5_deliverChange_53 : decode cX5_deliverChange 53 = .ok (.ireturn, 1) := by decide +kernel
theorem dX5_deliverChange_54 : decode cX5_deliverChange 54 = .ok (.aload 5, 2) := by decide +kernel
theorem dX5_deliverChange_56 : decode cX5_deliverChange 56 = .ok (.getfield 58, 3) := by decide +kernel
theorem dX5_deliverChange_59 : decode cX5_deliverChange 59 = .ok (.aload_n 3, 1) := by decide +kernel
theorem dX5_deliverChange_60 : decode cX5_deliverChange 60 = .ok (.getfield 178, 3) := by decide +kernel
theorem dX5_deliverChange_63 : decode cX5_deliverChange 63 = .ok (.invokevirtual 70, 3) := by decide +kernel
theorem dX5_deliverChange_66 : decode cX5_deliverChange 66 = .ok (.aload_n 3, 1) := by decide +kernel
theorem dX5_deliverChange_67 : decode cX5_deliverChange 67 = .ok (.getfield 197, 3) := by decide +kernel
theorem dX5_deliverChange_70 : decode cX5_deliverChange 70 = .ok (.if_icmp .eq 5, 3) := by decide +kernel
theorem dX5_deliverChange_73 : decode cX5_deliverChange 73 = .ok (.iconst 1, 1) := by decide +kernel
theorem dX5_deliverChange_74 : decode cX5_deliverChange 74 = .ok (.ireturn, 1) := by decide +kernel
theorem dX5_deliverChange_75 : decode cX5_deliverChange 75 = .ok (.aload_n 3, 1) := by decide +kernel
theorem dX5_deliverChange_76 : decode cX5_deliverChange 76 = .ok (.getfield 178, 3) := by decide +kernel
theorem dX5_deliverChange_79 : decode cX5_deliverChange 79 = .ok (.ifCond .ne 23, 3) := by decide +kernel
theorem dX5_deliverChange_82 : decode cX5_deliverChange 82 = .ok (.aload 5, 2) := by decide +kernel
theorem dX5_deliverChange_84 : decode cX5_deliverChange 84 = .ok (.getfield 58, 3) := by decide +kernel
theorem dX5_deliverChange_87 : decode cX5_deliverChange 87 = .ok (.getfield 171, 3) := by decide +kernel
theorem dX5_deliverChange_90 : decode cX5_deliverChange 90 = .ok (.aload_n 3, 1) := by decide +kernel
theorem dX5_deliverChange_91 : decode cX5_deliverChange 91 = .ok (.getfield 161, 3) := by decide +kernel
theorem dX5_deliverChange_94 : decode cX5_deliverChange 94 = .ok (.invokestatic 200, 3) := by decide +kernel
theorem dX5_deliverChange_97 : decode cX5_deliverChange 97 = .ok (.ifCond .ne 5, 3) := by decide +kernel
theorem dX5_deliverChange_100 : decode cX5_deliverChange 100 = .ok (.iconst 2, 1) := by decide +kernel
theorem dX5_deliverChange_101 : decode cX5_deliverChange 101 = .ok (.ireturn, 1) := by decide +kernel
theorem dX5_deliverChange_102 : decode cX5_deliverChange 102 = .ok (.aload 5, 2) := by decide +kernel
theorem dX5_deliverChange_104 : decode cX5_deliverChange 104 = .ok (.getfield 58, 3) := by decide +kernel
theorem dX5_deliverChange_107 : decode cX5_deliverChange 107 = .ok (.aload_n 3, 1) := by decide +kernel
theorem dX5_deliverChange_108 : decode cX5_deliverChange 108 = .ok (.getfield 178, 3) := by decide +kernel
theorem dX5_deliverChange_111 : decode cX5_deliverChange 111 = .ok (.aload_n 3, 1) := by decide +kernel
theorem dX5_deliverChange_112 : decode cX5_deliverChange 112 = .ok (.getfield 161, 3) := by decide +kernel
theorem dX5_deliverChange_115 : decode cX5_deliverChange 115 = .ok (.invokevirtual 65, 3) := by decide +kernel
theorem dX5_deliverChange_118 : decode cX5_deliverChange 118 = .ok (.iconst (-1), 1) := by decide +kernel
theorem dX5_deliverChange_119 : decode cX5_deliverChange 119 = .ok (.ireturn, 1) := by decide +kernel
theorem dX5_isStep_0 : decode cX5_isStep 0 = .ok (.iload_n 0, 1) := by decide +kernel
theorem dX5_isStep_1 : decode cX5_isStep 1 = .ok (.ifCond .ne 8, 3) := by decide +kernel
theorem dX5_isStep_4 : decode cX5_isStep 4 = .ok (.iload_n 1, 1) := by decide +kernel
theorem dX5_isStep_5 : decode cX5_isStep 5 = .ok (.iconst 1, 1) := by decide +kernel
theorem dX5_isStep_6 : decode cX5_isStep 6 = .ok (.if_icmp .eq 13, 3) := by decide +kernel
theorem dX5_isStep_9 : decode cX5_isStep 9 = .ok (.iload_n 0, 1) := by decide +kernel
theorem dX5_isStep_10 : decode cX5_isStep 10 = .ok (.iconst 1, 1) := by decide +kernel
theorem dX5_isStep_11 : decode cX5_isStep 11 = .ok (.if_icmp .ne 12, 3) := by decide +kernel
theorem dX5_isStep_14 : decode cX5_isStep 14 = .ok (.iload_n 1, 1) := by decide +kernel
theorem dX5_isStep_15 : decode cX5_isStep 15 = .ok (.iconst 2, 1) := by decide +kernel
theorem dX5_isStep_16 : decode cX5_isStep 16 = .ok (.if_icmp .ne 7, 3) := by decide +kernel
theorem dX5_isStep_19 : decode cX5_isStep 19 = .ok (.iconst 1, 1) := by decide +kernel
theorem dX5_isStep_20 : decode cX5_isStep 20 = .ok (.goto 4, 3) := by decide +kernel
theorem dX5_isStep_23 : decode cX5_isStep 23 = .ok (.iconst 0, 1) := by decide +kernel
theorem dX5_isStep_24 : decode cX5_isStep 24 = .ok (.ireturn, 1) := by decide +kernel
theorem dX5_jobAt_0 : decode cX5_jobAt 0 = .ok (.iload_n 1, 1) := by decide +kernel
theorem dX5_jobAt_1 : decode cX5_jobAt 1 = .ok (.ifCond .lt 14, 3) := by decide +kernel
theorem dX5_jobAt_4 : decode cX5_jobAt 4 = .ok (.iload_n 1, 1) := by decide +kernel
theorem dX5_jobAt_5 : decode cX5_jobAt 5 = .ok (.aload_n 0, 1) := by decide +kernel
theorem dX5_jobAt_6 : decode cX5_jobAt 6 = .ok (.getfield 10, 3) := by decide +kernel
theorem dX5_jobAt_9 : decode cX5_jobAt 9 = .ok (.invokevirtual 31, 3) := by decide +kernel
theorem dX5_jobAt_12 : decode cX5_jobAt 12 = .ok (.if_icmp .lt 13, 3) := by decide +kernel
theorem dX5_jobAt_15 : decode cX5_jobAt 15 = .ok (.new 204, 3) := by decide +kernel
theorem dX5_jobAt_18 : decode cX5_jobAt 18 = .ok (.dup, 1) := by decide +kernel
theorem dX5_jobAt_19 : decode cX5_jobAt 19 = .ok (.ldc 206, 2) := by decide +kernel
theorem dX5_jobAt_21 : decode cX5_jobAt 21 = .ok (.invokespecial 208, 3) := by decide +kernel
theorem dX5_jobAt_24 : decode cX5_jobAt 24 = .ok (.athrow, 1) := by decide +kernel
theorem dX5_jobAt_25 : decode cX5_jobAt 25 = .ok (.aload_n 0, 1) := by decide +kernel
theorem dX5_jobAt_26 : decode cX5_jobAt 26 = .ok (.getfield 10, 3) := by decide +kernel
theorem dX5_jobAt_29 : decode cX5_jobAt 29 = .ok (.iload_n 1, 1) := by decide +kernel
theorem dX5_jobAt_30 : decode cX5_jobAt 30 = .ok (.invokevirtual 164, 3) := by decide +kernel
theorem dX5_jobAt_33 : decode cX5_jobAt 33 = .ok (.checkcast 42, 3) := by decide +kernel
theorem dX5_jobAt_36 : decode cX5_jobAt 36 = .ok (.areturn, 1) := by decide +kernel
theorem dX5_deviceAt_0 : decode cX5_deviceAt 0 = .ok (.iload_n 1, 1) := by decide +kernel
theorem dX5_deviceAt_1 : decode cX5_deviceAt 1 = .ok (.ifCond .lt 8, 3) := by decide +kernel
theorem dX5_deviceAt_4 : decode cX5_deviceAt 4 = .ok (.iload_n 1, 1) := by decide +kernel
theorem dX5_deviceAt_5 : decode cX5_deviceAt 5 = .ok (.iconst 4, 1) := by decide +kernel
theorem dX5_deviceAt_6 : decode cX5_deviceAt 6 = .ok (.if_icmp .lt 13, 3) := by decide +kernel
theorem dX5_deviceAt_9 : decode cX5_deviceAt 9 = .ok (.new 204, 3) := by decide +kernel
theorem dX5_deviceAt_12 : decode cX5_deviceAt 12 = .ok (.dup, 1) := by decide +kernel
theorem dX5_deviceAt_13 : decode cX5_deviceAt 13 = .ok (.ldc 209, 2) := by decide +kernel
theorem dX5_deviceAt_15 : decode cX5_deviceAt 15 = .ok (.invokespecial 208, 3) := by decide +kernel
theorem dX5_deviceAt_18 : decode cX5_deviceAt 18 = .ok (.athrow, 1) := by decide +kernel
theorem dX5_deviceAt_19 : decode cX5_deviceAt 19 = .ok (.aload_n 0, 1) := by decide +kernel
theorem dX5_deviceAt_20 : decode cX5_deviceAt 20 = .ok (.getfield 18, 3) := by decide +kernel
theorem dX5_deviceAt_23 : decode cX5_deviceAt 23 = .ok (.iload_n 1, 1) := by decide +kernel
theorem dX5_deviceAt_24 : decode cX5_deviceAt 24 = .ok (.aaload, 1) := by decide +kernel
theorem dX5_deviceAt_25 : decode cX5_deviceAt 25 = .ok (.areturn, 1) := by decide +kernel
theorem dX5_refusedAt_0 : decode cX5_refusedAt 0 = .ok (.aload_n 0, 1) := by decide +kernel
theorem dX5_refusedAt_1 : decode cX5_refusedAt 1 = .ok (.iload_n 1, 1) := by decide +kernel
theorem dX5_refusedAt_2 : decode cX5_refusedAt 2 = .ok (.invokevirtual 84, 3) := by decide +kernel
theorem dX5_refusedAt_5 : decode cX5_refusedAt 5 = .ok (.getfield 149, 3) := by decide +kernel
theorem dX5_refusedAt_8 : decode cX5_refusedAt 8 = .ok (.astore_n 3, 1) := by decide +kernel
theorem dX5_refusedAt_9 : decode cX5_refusedAt 9 = .ok (.iload_n 2, 1) := by decide +kernel
theorem dX5_refusedAt_10 : decode cX5_refusedAt 10 = .ok (.ifCond .lt 11, 3) := by decide +kernel
theorem dX5_refusedAt_13 : decode cX5_refusedAt 13 = .ok (.iload_n 2, 1) := by decide +kernel
theorem dX5_refusedAt_14 : decode cX5_refusedAt 14 = .ok (.aload_n 3, 1) := by decide +kernel
theorem dX5_refusedAt_15 : decode cX5_refusedAt 15 = .ok (.invokevirtual 31, 3) := by decide +kernel
theorem dX5_refusedAt_18 : decode cX5_refusedAt 18 = .ok (.if_icmp .lt 13, 3) := by decide +kernel
theorem dX5_refusedAt_21 : decode cX5_refusedAt 21 = .ok (.new 204, 3) := by decide +kernel
theorem dX5_refusedAt_24 : decode cX5_refusedAt 24 = .ok (.dup, 1) := by decide +kernel
theorem dX5_refusedAt_25 : decode cX5_refusedAt 25 = .ok (.ldc 211, 2) := by decide +kernel
theorem dX5_refusedAt_27 : decode cX5_refusedAt 27 = .ok (.invokespecial 208, 3) := by decide +kernel
theorem dX5_refusedAt_30 : decode cX5_refusedAt 30 = .ok (.athrow, 1) := by decide +kernel
theorem dX5_refusedAt_31 : decode cX5_refusedAt 31 = .ok (.aload_n 3, 1) := by decide +kernel
theorem dX5_refusedAt_32 : decode cX5_refusedAt 32 = .ok (.iload_n 2, 1) := by decide +kernel
theorem dX5_refusedAt_33 : decode cX5_refusedAt 33 = .ok (.invokevirtual 164, 3) := by decide +kernel
theorem dX5_refusedAt_36 : decode cX5_refusedAt 36 = .ok (.checkcast 157, 3) := by decide +kernel
theorem dX5_refusedAt_39 : decode cX5_refusedAt 39 = .ok (.areturn, 1) := by decide +kernel
theorem dX5_fieldsHeld_0 : decode cX5_fieldsHeld 0 = .ok (.aload_n 0, 1) := by decide +kernel
theorem dX5_fieldsHeld_1 : decode cX5_fieldsHeld 1 = .ok (.iload_n 1, 1) := by decide +kernel
theorem dX5_fieldsHeld_2 : decode cX5_fieldsHeld 2 = .ok (.invokevirtual 101, 3) := by decide +kernel
theorem dX5_fieldsHeld_5 : decode cX5_fieldsHeld 5 = .ok (.astore_n 2, 1) := by decide +kernel
theorem dX5_fieldsHeld_6 : decode cX5_fieldsHeld 6 = .ok (.aload_n 2, 1) := by decide +kernel
theorem dX5_fieldsHeld_7 : decode cX5_fieldsHeld 7 = .ok (.ifnonnull 13, 3) := by decide +kernel
theorem dX5_fieldsHeld_10 : decode cX5_fieldsHeld 10 = .ok (.new 35, 3) := by decide +kernel
theorem dX5_fieldsHeld_13 : decode cX5_fieldsHeld 13 = .ok (.dup, 1) := by decide +kernel
theorem dX5_fieldsHeld_14 : decode cX5_fieldsHeld 14 = .ok (.ldc 213, 2) := by decide +kernel
theorem dX5_fieldsHeld_16 : decode cX5_fieldsHeld 16 = .ok (.invokespecial 39, 3) := by decide +kernel
theorem dX5_fieldsHeld_19 : decode cX5_fieldsHeld 19 = .ok (.athrow, 1) := by decide +kernel
theorem dX5_fieldsHeld_20 : decode cX5_fieldsHeld 20 = .ok (.aload_n 2, 1) := by decide +kernel
theorem dX5_fieldsHeld_21 : decode cX5_fieldsHeld 21 = .ok (.areturn, 1) := by decide +kernel
theorem dX5_checkRange_0 : decode cX5_checkRange 0 = .ok (.iload_n 0, 1) := by decide +kernel
theorem dX5_checkRange_1 : decode cX5_checkRange 1 = .ok (.iload_n 1, 1) := by decide +kernel
theorem dX5_checkRange_2 : decode cX5_checkRange 2 = .ok (.if_icmp .lt 8, 3) := by decide +kernel
theorem dX5_checkRange_5 : decode cX5_checkRange 5 = .ok (.iload_n 0, 1) := by decide +kernel
theorem dX5_checkRange_6 : decode cX5_checkRange 6 = .ok (.iload_n 2, 1) := by decide +kernel
theorem dX5_checkRange_7 : decode cX5_checkRange 7 = .ok (.if_icmp .le 13, 3) := by decide +kernel
theorem dX5_checkRange_10 : decode cX5_checkRange 10 = .ok (.new 127, 3) := by decide +kernel
theorem dX5_checkRange_13 : decode cX5_checkRange 13 = .ok (.dup, 1) := by decide +kernel
theorem dX5_checkRange_14 : decode cX5_checkRange 14 = .ok (.ldc 215, 2) := by decide +kernel
theorem dX5_checkRange_16 : decode cX5_checkRange 16 = .ok (.invokespecial 131, 3) := by decide +kernel
theorem dX5_checkRange_19 : decode cX5_checkRange 19 = .ok (.athrow, 1) := by decide +kernel
theorem dX5_checkRange_20 : decode cX5_checkRange 20 = .ok (.return_, 1) := by decide +kernel
theorem dX5_checkField_0 : decode cX5_checkField 0 = .ok (.iload_n 0, 1) := by decide +kernel
theorem dX5_checkField_1 : decode cX5_checkField 1 = .ok (.iconst 0, 1) := by decide +kernel
theorem dX5_checkField_2 : decode cX5_checkField 2 = .ok (.iconst 1, 1) := by decide +kernel
theorem dX5_checkField_3 : decode cX5_checkField 3 = .ok (.invokestatic 27, 3) := by decide +kernel
theorem dX5_checkField_6 : decode cX5_checkField 6 = .ok (.return_, 1) := by decide +kernel
theorem dX5_checkValue_0 : decode cX5_checkValue 0 = .ok (.iload_n 0, 1) := by decide +kernel
theorem dX5_checkValue_1 : decode cX5_checkValue 1 = .ok (.invokestatic 77, 3) := by decide +kernel
theorem dX5_checkValue_4 : decode cX5_checkValue 4 = .ok (.iload_n 1, 1) := by decide +kernel
theorem dX5_checkValue_5 : decode cX5_checkValue 5 = .ok (.iconst 0, 1) := by decide +kernel
theorem dX5_checkValue_6 : decode cX5_checkValue 6 = .ok (.iload_n 0, 1) := by decide +kernel
theorem dX5_checkValue_7 : decode cX5_checkValue 7 = .ok (.ifCond .ne 7, 3) := by decide +kernel
theorem dX5_checkValue_10 : decode cX5_checkValue 10 = .ok (.iconst 2, 1) := by decide +kernel
theorem dX5_checkValue_11 : decode cX5_checkValue 11 = .ok (.goto 6, 3) := by decide +kernel
theorem dX5_checkValue_14 : decode cX5_checkValue 14 = .ok (.sipush 10000, 3) := by decide +kernel
theorem dX5_checkValue_17 : decode cX5_checkValue 17 = .ok (.invokestatic 27, 3) := by decide +kernel
theorem dX5_checkValue_20 : decode cX5_checkValue 20 = .ok (.return_, 1) := by decide +kernel
theorem dX6_init_0 : decode cX6_init 0 = .ok (.aload_n 0, 1) := by decide +kernel
theorem dX6_init_1 : decode cX6_init 1 = .ok (.invokespecial 1, 3) := by decide +kernel
theorem dX6_init_4 : decode cX6_init 4 = .ok (.aload_n 0, 1) := by decide +kernel
theorem dX6_init_5 : decode cX6_init 5 = .ok (.bipush 40, 2) := by decide +kernel
theorem dX6_init_7 : decode cX6_init 7 = .ok (.newarray .int, 2) := by decide +kernel
theorem dX6_init_9 : decode cX6_init 9 = .ok (.putfield 7, 3) := by decide +kernel
theorem dX6_init_12 : decode cX6_init 12 = .ok (.aload_n 0, 1) := by decide +kernel
theorem dX6_init_13 : decode cX6_init 13 = .ok (.bipush 40, 2) := by decide +kernel
theorem dX6_init_15 : decode cX6_init 15 = .ok (.newarray .int, 2) := by decide +kernel
theorem dX6_init_17 : decode cX6_init 17 = .ok (.putfield 13, 3) := by decide +kernel
theorem dX6_init_20 : decode cX6_init 20 = .ok (.aload_n 0, 1) := by decide +kernel
theorem dX6_init_21 : decode cX6_init 21 = .ok (.bipush 80, 2) := by decide +kernel
theorem dX6_init_23 : decode cX6_init 23 = .ok (.newarray .int, 2) := by decide +kernel
theorem dX6_init_25 : decode cX6_init 25 = .ok (.putfield 16, 3) := by decide +kernel
theorem dX6_init_28 : decode cX6_init 28 = .ok (.aload_n 0, 1) := by decide +kernel
theorem dX6_init_29 : decode cX6_init 29 = .ok (.bipush 80, 2) := by decide +kernel
theorem dX6_init_31 : decode cX6_init 31 = .ok (.newarray .int, 2) := by decide +kernel
theorem dX6_init_33 : decode cX6_init 33 = .ok (.putfield 19, 3) := by decide +kernel
theorem dX6_init_36 : decode cX6_init 36 = .ok (.aload_n 0, 1) := by decide +kernel
theorem dX6_init_37 : decode cX6_init 37 = .ok (.iconst 4, 1) := by decide +kernel
theorem dX6_init_38 : decode cX6_init 38 = .ok (.newarray .int, 2) := by decide +kernel
theorem dX6_init_40 : decode cX6_init 40 = .ok (.putfield 22, 3) := by decide +kernel
theorem dX6_init_43 : decode cX6_init 43 = .ok (.aload_n 0, 1) := by decide +kernel
theorem dX6_init_44 : decode cX6_init 44 = .ok (.sipush 160, 3) := by decide +kernel
theorem dX6_init_47 : decode cX6_init 47 = .ok (.newarray .boolean, 2) := by decide +kernel
theorem dX6_init_49 : decode cX6_init 49 = .ok (.putfield 25, 3) := by decide +kernel
theorem dX6_init_52 : decode cX6_init 52 = .ok (.aload_n 0, 1) := by decide +kernel
theorem dX6_init_53 : decode cX6_init 53 = .ok (.sipush 320, 3) := by decide +kernel
theorem dX6_init_56 : decode cX6_init 56 = .ok (.newarray .int, 2) := by decide +kernel
theorem dX6_init_58 : decode cX6_init 58 = .ok (.putfield 29, 3) := by decide +kernel
theorem dX6_init_61 : decode cX6_init 61 = .ok (.aload_n 0, 1) := by decide +kernel
theorem dX6_init_62 : decode cX6_init 62 = .ok (.sipush 320, 3) := by decide +kernel
theorem dX6_init_65 : decode cX6_init 65 = .ok (.newarray .int, 2) := by decide +kernel
theorem dX6_init_67 : decode cX6_init 67 = .ok (.putfield 32, 3) := by decide +kernel
theorem dX6_init_70 : decode cX6_init 70 = .ok (.aload_n 0, 1) := by decide +kernel
theorem dX6_init_71 : decode cX6_init 71 = .ok (.iconst 4, 1) := by decide +kernel
theorem dX6_init_72 : decode cX6_init 72 = .ok (.newarray .int, 2) := by decide +kernel
theorem dX6_init_74 : decode cX6_init 74 = .ok (.putfield 35, 3) := by decide +kernel
theorem dX6_init_77 : decode cX6_init 77 = .ok (.aload_n 0, 1) := by decide +kernel
theorem dX6_init_78 : decode cX6_init 78 = .ok (.sipush 2400, 3) := by decide +kernel
theorem dX6_init_81 : decode cX6_init 81 = .ok (.newarray .int, 2) := by decide +kernel
theorem dX6_init_83 : decode cX6_init 83 = .ok (.putfield 38, 3) := by decide +kernel
theorem dX6_init_86 : decode cX6_init 86 = .ok (.aload_n 0, 1) := by decide +kernel
theorem dX6_init_87 : decode cX6_init 87 = .ok (.sipush 4800, 3) := by decide +kernel
theorem dX6_init_90 : decode cX6_init 90 = .ok (.newarray .int, 2) := by decide +kernel
theorem dX6_init_92 : decode cX6_init 92 = .ok (.putfield 41, 3) := by decide +kernel
theorem dX6_init_95 : decode cX6_init 95 = .ok (.aload_n 0, 1) := by decide +kernel
theorem dX6_init_96 : decode cX6_init 96 = .ok (.sipush 4800, 3) := by decide +kernel
theorem dX6_init_99 : decode cX6_init 99 = .ok (.newarray .int, 2) := by decide +kernel
theorem dX6_init_101 : decode cX6_init 101 = .ok (.putfield 44, 3) := by decide +kernel
theorem dX6_init_104 : decode cX6_init 104 = .ok (.aload_n 0, 1) := by decide +kernel
theorem dX6_init_105 : decode cX6_init 105 = .ok (.sipush 600, 3) := by decide +kernel
theorem dX6_init_108 : decode cX6_init 108 = .ok (.newarray .int, 2) := by decide +kernel
theorem dX6_init_110 : decode cX6_init 110 = .ok (.putfield 47, 3) := by decide +kernel
theorem dX6_init_113 : decode cX6_init 113 = .ok (.aload_n 0, 1) := by decide +kernel
theorem dX6_init_114 : decode cX6_init 114 = .ok (.sipush 600, 3) := by decide +kernel
theorem dX6_init_117 : decode cX6_init 117 = .ok (.newarray .int, 2) := by decide +kernel
theorem dX6_init_119 : decode cX6_init 119 = .ok (.putfield 50, 3) := by decide +kernel
theorem dX6_init_122 : decode cX6_init 122 = .ok (.aload_n 0, 1) := by decide +kernel
theorem dX6_init_123 : decode cX6_init 123 = .ok (.sipush 600, 3) := by decide +kernel
theorem dX6_init_126 : decode cX6_init 126 = .ok (.newarray .int, 2) := by decide +kernel
theorem dX6_init_128 : decode cX6_init 128 = .ok (.putfield 53, 3) := by decide +kernel
theorem dX6_init_131 : decode cX6_init 131 = .ok (.aload_n 0, 1) := by decide +kernel
theorem dX6_init_132 : decode cX6_init 132 = .ok (.sipush 600, 3) := by decide +kernel
theorem dX6_init_135 : decode cX6_init 135 = .ok (.newarray .int, 2) := by decide +kernel
theorem dX6_init_137 : decode cX6_init 137 = .ok (.putfield 56, 3) := by decide +kernel
theorem dX6_init_140 : decode cX6_init 140 = .ok (.aload_n 0, 1) := by decide +kernel
theorem dX6_init_141 : decode cX6_init 141 = .ok (.sipush 600, 3) := by decide +kernel
theorem dX6_init_144 : decode cX6_init 144 = .ok (.newarray .int, 2) := by decide +kernel
theorem dX6_init_146 : decode cX6_init 146 = .ok (.putfield 59, 3) := by decide +kernel
theorem dX6_init_149 : decode cX6_init 149 = .ok (.aload_n 0, 1) := by decide +kernel
theorem dX6_init_150 : decode cX6_init 150 = .ok (.sipush 600, 3) := by decide +kernel
theorem dX6_init_153 : decode cX6_init 153 = .ok (.newarray .int, 2) := by decide +kernel
theorem dX6_init_155 : decode cX6_init 155 = .ok (.putfield 62, 3) := by decide +kernel
theorem dX6_init_158 : decode cX6_init 158 = .ok (.aload_n 0, 1) := by decide +kernel
theorem dX6_init_159 : decode cX6_init 159 = .ok (.sipush 600, 3) := by decide +kernel
theorem dX6_init_162 : decode cX6_init 162 = .ok (.newarray .int, 2) := by decide +kernel
theorem dX6_init_164 : decode cX6_init 164 = .ok (.putfield 65, 3) := by decide +kernel
theorem dX6_init_167 : decode cX6_init 167 = .ok (.aload_n 0, 1) := by decide +kernel
theorem dX6_init_168 : decode cX6_init 168 = .ok (.sipush 600, 3) := by decide +kernel
theorem dX6_init_171 : decode cX6_init 171 = .ok (.newarray .int, 2) := by decide +kernel
theorem dX6_init_173 : decode cX6_init 173 = .ok (.putfield 68, 3) := by decide +kernel
theorem dX6_init_176 : decode cX6_init 176 = .ok (.iconst 0, 1) := by decide +kernel
theorem dX6_init_177 : decode cX6_init 177 = .ok (.istore_n 1, 1) := by decide +kernel
theorem dX6_init_178 : decode cX6_init 178 = .ok (.iload_n 1, 1) := by decide +kernel
theorem dX6_init_179 : decode cX6_init 179 = .ok (.iconst 4, 1) := by decide +kernel
theorem dX6_init_180 : decode cX6_init 180 = .ok (.if_icmp .ge 17, 3) := by decide +kernel
theorem dX6_init_183 : decode cX6_init 183 = .ok (.aload_n 0, 1) := by decide +kernel
theorem dX6_init_184 : decode cX6_init 184 = .ok (.getfield 22, 3) := by decide +kernel
theorem dX6_init_187 : decode cX6_init 187 = .ok (.iload_n 1, 1) := by decide +kernel
theorem dX6_init_188 : decode cX6_init 188 = .ok (.bipush 10, 2) := by decide +kernel
theorem dX6_init_190 : decode cX6_init 190 = .ok (.iastore, 1) := by decide +kernel
theorem dX6_init_191 : decode cX6_init 191 = .ok (.iinc 1 1, 3) := by decide +kernel
theorem dX6_init_194 : decode cX6_init 194 = .ok (.goto (-16), 3) := by decide +kernel
theorem dX6_init_197 : decode cX6_init 197 = .ok (.return_, 1) := by decide +kernel
theorem dX6_thrown_0 : decode cX6_thrown 0 = .ok (.aload_n 0, 1) := by decide +kernel
theorem dX6_thrown_1 : decode cX6_thrown 1 = .ok (.getfield 71, 3) := by decide +kernel
theorem dX6_thrown_4 : decode cX6_thrown 4 = .ok (.ireturn, 1) := by decide +kernel
theorem dX6_refused_0 : decode cX6_refused 0 = .ok (.aload_n 0, 1) := by decide +kernel
theorem dX6_refused_1 : decode cX6_refused 1 = .ok (.iload_n 1, 1) := by decide +kernel
theorem dX6_refused_2 : decode cX6_refused 2 = .ok (.putfield 71, 3) := by decide +kernel
theorem dX6_refused_5 : decode cX6_refused 5 = .ok (.iload_n 1, 1) := by decide +kernel
theorem dX6_refused_6 : decode cX6_refused 6 = .ok (.ifCond .eq 7, 3) := by decide +kernel
theorem dX6_refused_9 : decode cX6_refused 9 = .ok (.iconst 1, 1) := by decide +kernel
theorem dX6_refused_10 : decode cX6_refused 10 = .ok (.goto 4, 3) := by decide +kernel
theorem dX6_refused_13 : decode cX6_refused 13 = .ok (.iconst 0, 1) := by decide +kernel
theorem dX6_refused_14 : decode cX6_refused 14 = .ok (.ireturn, 1) := by decide +kernel
theorem dX6_fine_0 : decode cX6_fine 0 = .ok (.aload_n 0, 1) := by decide +kernel
theorem dX6_fine_1 : decode cX6_fine 1 = .ok (.iconst 0, 1) := by decide +kernel
theorem dX6_fine_2 : decode cX6_fine 2 = .ok (.putfield 71, 3) := by decide +kernel
theorem dX6_fine_5 : decode cX6_fine 5 = .ok (.iload_n 1, 1) := by decide +kernel
theorem dX6_fine_6 : decode cX6_fine 6 = .ok (.ireturn, 1) := by decide +kernel
theorem dX6_in_0 : decode cX6_in 0 = .ok (.iload_n 0, 1) := by decide +kernel
theorem dX6_in_1 : decode cX6_in 1 = .ok (.iload_n 1, 1) := by decide +kernel
theorem dX6_in_2 : decode cX6_in 2 = .ok (.if_icmp .lt 12, 3) := by decide +kernel
theorem dX6_in_5 : decode cX6_in 5 = .ok (.iload_n 0, 1) := by decide +kernel
theorem dX6_in_6 : decode cX6_in 6 = .ok (.iload_n 2, 1) := by decide +kernel
theorem dX6_in_7 : decode cX6_in 7 = .ok (.if_icmp .gt 7, 3) := by decide +kernel
theorem dX6_in_10 : decode cX6_in 10 = .ok (.iconst 1, 1) := by decide +kernel
theorem dX6_in_11 : decode cX6_in 11 = .ok (.goto 4, 3) := by decide +kernel
theorem dX6_in_14 : decode cX6_in 14 = .ok (.iconst 0, 1) := by decide +kernel
theorem dX6_in_15 : decode cX6_in 15 = .ok (.ireturn, 1) := by decide +kernel
theorem dX6_isDevice_0 : decode cX6_isDevice 0 = .ok (.iload_n 0, 1) := by decide +kernel
theorem dX6_isDevice_1 : decode cX6_isDevice 1 = .ok (.iconst 0, 1) := by decide +kernel
theorem dX6_isDevice_2 : decode cX6_isDevice 2 = .ok (.iconst 3, 1) := by decide +kernel
theorem dX6_isDevice_3 : decode cX6_isDevice 3 = .ok (.invokestatic 75, 3) := by decide +kernel
theorem dX6_isDevice_6 : decode cX6_isDevice 6 = .ok (.ireturn, 1) := by decide +kernel
theorem dX6_isJob_0 : decode cX6_isJob 0 = .ok (.iload_n 1, 1) := by decide +kernel
theorem dX6_isJob_1 : decode cX6_isJob 1 = .ok (.iconst 0, 1) := by decide +kernel
theorem dX6_isJob_2 : decode cX6_isJob 2 = .ok (.aload_n 0, 1) := by decide +kernel
theorem dX6_isJob_3 : decode cX6_isJob 3 = .ok (.getfield 79, 3) := by decide +kernel
theorem dX6_isJob_6 : decode cX6_isJob 6 = .ok (.iconst 1, 1) := by decide +kernel
theorem dX6_isJob_7 : decode cX6_isJob 7 = .ok (.isub, 1) := by decide +kernel
theorem dX6_isJob_8 : decode cX6_isJob 8 = .ok (.invokestatic 75, 3) := by decide +kernel
theorem dX6_isJob_11 : decode cX6_isJob 11 = .ok (.ireturn, 1) := by decide +kernel
theorem dX6_isField_0 : decode cX6_isField 0 = .ok (.iload_n 0, 1) := by decide +kernel
theorem dX6_isField_1 : decode cX6_isField 1 = .ok (.ifCond .eq 8, 3) := by decide +kernel
theorem dX6_isField_4 : decode cX6_isField 4 = .ok (.iload_n 0, 1) := by decide +kernel
theorem dX6_isField_5 : decode cX6_isField 5 = .ok (.iconst 1, 1) := by decide +kernel
theorem dX6_isField_6 : decode cX6_isField 6 = .ok (.if_icmp .ne 7, 3) := by decide +kernel
theorem dX6_isField_9 : decode cX6_isField 9 = .ok (.iconst 1, 1) := by decide +kernel
theorem dX6_isField_10 : decode cX6_isField 10 = .ok (.goto 4, 3) := by decide +kernel
theorem dX6_isField_13 : decode cX6_isField 13 = .ok (.iconst 0, 1) := by decide +kernel
theorem dX6_isField_14 : decode cX6_isField 14 = .ok (.ireturn, 1) := by decide +kernel
theorem dX6_isValue_0 : decode cX6_isValue 0 = .ok (.iload_n 0, 1) := by decide +kernel
theorem dX6_isValue_1 : decode cX6_isValue 1 = .ok (.invokestatic 82, 3) := by decide +kernel
theorem dX6_isValue_4 : decode cX6_isValue 4 = .ok (.ifCond .eq 26, 3) := by decide +kernel
theorem dX6_isValue_7 : decode cX6_isValue 7 = .ok (.iload_n 1, 1) := by decide +kernel
theorem dX6_isValue_8 : decode cX6_isValue 8 = .ok (.iconst 0, 1) := by decide +kernel
theorem dX6_isValue_9 : decode cX6_isValue 9 = .ok (.iload_n 0, 1) := by decide +kernel
theorem dX6_isValue_10 : decode cX6_isValue 10 = .ok (.ifCond .ne 7, 3) := by decide +kernel
theorem dX6_isValue_13 : decode cX6_isValue 13 = .ok (.iconst 2, 1) := by decide +kernel
theorem dX6_isValue_14 : decode cX6_isValue 14 = .ok (.goto 6, 3) := by decide +kernel
theorem dX6_isValue_17 : decode cX6_isValue 17 = .ok (.sipush 10000, 3) := by decide +kernel
theorem dX6_isValue_20 : decode cX6_isValue 20 = .ok (.invokestatic 75, 3) := by decide +kernel
theorem dX6_isValue_23 : decode cX6_isValue 23 = .ok (.ifCond .eq 7, 3) := by decide +kernel
theorem dX6_isValue_26 : decode cX6_isValue 26 = .ok (.iconst 1, 1) := by decide +kernel
theorem dX6_isValue_27 : decode cX6_isValue 27 = .ok (.goto 4, 3) := by decide +kernel
theorem dX6_isValue_30 : decode cX6_isValue 30 = .ok (.iconst 0, 1) := by decide +kernel
theorem dX6_isValue_31 : decode cX6_isValue 31 = .ok (.ireturn, 1) := by decide +kernel
theorem dX6_enter_0 : decode cX6_enter 0 = .ok (.aload_n 0, 1) := by decide +kernel
theorem dX6_enter_1 : decode cX6_enter 1 = .ok (.getfield 7, 3) := by decide +kernel
theorem dX6_enter_4 : decode cX6_enter 4 = .ok (.aload_n 0, 1) := by decide +kernel
theorem dX6_enter_5 : decode cX6_enter 5 = .ok (.getfield 79, 3) := by decide +kernel
theorem dX6_enter_8 : decode cX6_enter 8 = .ok (.iload_n 1, 1) := by decide +kernel
theorem dX6_enter_9 : decode cX6_enter 9 = .ok (.iastore, 1) := by decide +kernel
theorem dX6_enter_10 : decode cX6_enter 10 = .ok (.aload_n 0, 1) := by decide +kernel
theorem dX6_enter_11 : decode cX6_enter 11 = .ok (.getfield 13, 3) := by decide +kernel
theorem dX6_enter_14 : decode cX6_enter 14 = .ok (.aload_n 0, 1) := by decide +kernel
theorem dX6_enter_15 : decode cX6_enter 15 = .ok (.getfield 79, 3) := by decide +kernel
theorem dX6_enter_18 : decode cX6_enter 18 = .ok (.iload_n 2, 1) := by decide +kernel
theorem dX6_enter_19 : decode cX6_enter 19 = .ok (.iastore, 1) := by decide +kernel
theorem dX6_enter_20 : decode cX6_enter 20 = .ok (.aload_n 0, 1) := by decide +kernel
theorem dX6_enter_21 : decode cX6_enter 21 = .ok (.dup, 1) := by decide +kernel
theorem dX6_enter_22 : decode cX6_enter 22 = .ok (.getfield 79, 3) := by decide +kernel
theorem dX6_enter_25 : decode cX6_enter 25 = .ok (.iconst 1, 1) := by decide +kernel
theorem dX6_enter_26 : decode cX6_enter 26 = .ok (.iadd, 1) := by decide +kernel
theorem dX6_enter_27 : decode cX6_enter 27 = .ok (.putfield 79, 3) := by decide +kernel
theorem dX6_enter_30 : decode cX6_enter 30 = .ok (.aload_n 0, 1) := by decide +kernel
theorem dX6_enter_31 : decode cX6_enter 31 = .ok (.getfield 79, 3) := by decide +kernel
theorem dX6_enter_34 : decode cX6_enter 34 = .ok (.iconst 1, 1) := by decide +kernel
theorem dX6_enter_35 : decode cX6_enter 35 = .ok (.isub, 1) := by decide +kernel
theorem dX6_enter_36 : decode cX6_enter 36 = .ok (.ireturn, 1) := by decide +kernel
theorem dX6_add_0 : decode cX6_add 0 = .ok (.iload_n 1, 1) := by decide +kernel
theorem dX6_add_1 : decode cX6_add 1 = .ok (.invokestatic 86, 3) := by decide +kernel
theorem dX6_add_4 : decode cX6_add 4 = .ok (.ifCond .eq 17, 3) := by decide +kernel
theorem dX6_add_7 : decode cX6_add 7 = .ok (.iload_n 2, 1) := by decide +kernel
theorem dX6_add_8 : decode cX6_add 8 = .ok (.iconst 0, 1) := by decide +kernel
theorem dX6_add_9 : decode cX6_add 9 = .ok (.bipush 9, 2) := by decide +kernel
theorem dX6_add_11 : decode cX6_add 11 = .ok (.invokestatic 75, 3) := by decide +kernel
theorem dX6_add_14 : decode cX6_add 14 = .ok (.ifCond .eq 7, 3) := by decide +kernel
theorem dX6_add_17 : decode cX6_add 17 = .ok (.iconst 1, 1) := by decide +kernel
theorem dX6_add_18 : decode cX6_add 18 = .ok (.goto 4, 3) := by decide +kernel
theorem dX6_add_21 : decode cX6_add 21 = .ok (.iconst 0, 1) := by decide +kernel
theorem dX6_add_22 : decode cX6_add 22 = .ok (.istore_n 3, 1) := by decide +kernel
theorem dX6_add_23 : decode cX6_add 23 = .ok (.aload_n 0, 1) := by decide +kernel
theorem dX6_add_24 : decode cX6_add 24 = .ok (.iload_n 3, 1) := by decide +kernel
theorem dX6_add_25 : decode cX6_add 25 = .ok (.ifCond .ne 7, 3) := by decide +kernel
theorem dX6_add_28 : decode cX6_add 28 = .ok (.iconst 1, 1) := by decide +kernel
theorem dX6_add_29 : decode cX6_add 29 = .ok (.goto 17, 3) := by decide +kernel
theorem dX6_add_32 : decode cX6_add 32 = .ok (.aload_n 0, 1) := by decide +kernel
theorem dX6_add_33 : decode cX6_add 33 = .ok (.getfield 79, 3) := by decide +kernel
theorem dX6_add_36 : decode cX6_add 36 = .ok (.bipush 40, 2) := by decide +kernel
theorem dX6_add_38 : decode cX6_add 38 = .ok (.if_icmp .ne 7, 3) := by decide +kernel
theorem dX6_add_41 : decode cX6_add 41 = .ok (.iconst 2, 1) := by decide +kernel
theorem dX6_add_42 : decode cX6_add 42 = .ok (.goto 4, 3) := by decide +kernel
theorem dX6_add_45 : decode cX6_add 45 = .ok (.iconst 0, 1) := by decide +kernel
theorem dX6_add_46 : decode cX6_add 46 = .ok (.invokevirtual 89, 3) := by decide +kernel
theorem dX6_add_49 : decode cX6_add 49 = .ok (.ifCond .eq 7, 3) := by decide +kernel
theorem dX6_add_52 : decode cX6_add 52 = .ok (.iconst 0, 1) := by decide +kernel
theorem dX6_add_53 : decode cX6_add 53 = .ok (.goto 9, 3) := by decide +kernel
theorem dX6_add_56 : decode cX6_add 56 = .ok (.aload_n 0, 1) := by decide +kernel
theorem dX6_add_57 : decode cX6_add 57 = .ok (.iload_n 1, 1) := by decide +kernel
theorem dX6_add_58 : decode cX6_add 58 = .ok (.iload_n 2, 1) := by decide +kernel
theorem dX6_add_59 : decode cX6_add 59 = .ok (.invokevirtual 92, 3) := by decide +kernel
theorem dX6_add_62 : decode cX6_add 62 = .ok (.ireturn, 1) := by decide +kernel
theorem dX6_give_0 : decode cX6_give 0 = .ok (.aload_n 0, 1) := by decide +kernel
theorem dX6_give_1 : decode cX6_give 1 = .ok (.aload_n 0, 1) := by decide +kernel
theorem dX6_give_2 : decode cX6_give 2 = .ok (.iload_n 1, 1) := by decide +kernel
theorem dX6_give_3 : decode cX6_give 3 = .ok (.invokevirtual 96, 3) := by decide +kernel
theorem dX6_give_6 : decode cX6_give 6 = .ok (.ifCond .ne 7, 3) := by decide +kernel
theorem dX6_give_9 : decode cX6_give 9 = .ok (.iconst 1, 1) := by decide +kernel
theorem dX6_give_10 : decode cX6_give 10 = .ok (.goto 15, 3) := by decide +kernel
theorem dX6_give_13 : decode cX6_give 13 = .ok (.iload_n 2, 1) := by decide +kernel
theorem dX6_give_14 : decode cX6_give 14 = .ok (.invokestatic 86, 3) := by decide +kernel
theorem dX6_give_17 : decode cX6_give 17 = .ok (.ifCond .eq 7, 3) := by decide +kernel
theorem dX6_give_20 : decode cX6_give 20 = .ok (.iconst 0, 1) := by decide +kernel
theorem dX6_give_21 : decode cX6_give 21 = .ok (.goto 4, 3) := by decide +kernel
theorem dX6_give_24 : decode cX6_give 24 = .ok (.iconst 2, 1) := by decide +kernel
theorem dX6_give_25 : decode cX6_give 25 = .ok (.invokevirtual 89, 3) := by decide +kernel
theorem dX6_give_28 : decode cX6_give 28 = .ok (.ifCond .eq 5, 3) := by decide +kernel
theorem dX6_give_31 : decode cX6_give 31 = .ok (.iconst 0, 1) := by decide +kernel
theorem dX6_give_32 : decode cX6_give 32 = .ok (.ireturn, 1) := by decide +kernel
theorem dX6_give_33 : decode cX6_give 33 = .ok (.aload_n 0, 1) := by decide +kernel
theorem dX6_give_34 : decode cX6_give 34 = .ok (.getfield 7, 3) := by decide +kernel
theorem dX6_give_37 : decode cX6_give 37 = .ok (.iload_n 1, 1) := by decide +kernel
theorem dX6_give_38 : decode cX6_give 38 = .ok (.iaload, 1) := by decide +kernel
theorem dX6_give_39 : decode cX6_give 39 = .ok (.istore_n 3, 1) := by decide +kernel
theorem dX6_give_40 : decode cX6_give 40 = .ok (.aload_n 0, 1) := by decide +kernel
theorem dX6_give_41 : decode cX6_give 41 = .ok (.getfield 7, 3) := by decide +kernel
theorem dX6_give_44 : decode cX6_give 44 = .ok (.iload_n 1, 1) := by decide +kernel
theorem dX6_give_45 : decode cX6_give 45 = .ok (.iload_n 2, 1) := by decide +kernel
theorem dX6_give_46 : decode cX6_give 46 = .ok (.iastore, 1) := by decide +kernel
theorem dX6_give_47 : decode cX6_give 47 = .ok (.iload_n 3, 1) := by decide +kernel
theorem dX6_give_48 : decode cX6_give 48 = .ok (.ireturn, 1) := by decide +kernel
theorem dX6_lay_0 : decode cX6_lay 0 = .ok (.aload_n 0, 1) := by decide +kernel
theorem dX6_lay_1 : decode cX6_lay 1 = .ok (.getfield 16, 3) := by decide +kernel
theorem dX6_lay_4 : decode cX6_lay 4 = .ok (.iconst 2, 1) := by decide +kernel
theorem dX6_lay_5 : decode cX6_lay 5 = .ok (.iload_n 1, 1) := by decide +kernel
theorem dX6_lay_6 : decode cX6_lay 6 = .ok (.imul, 1) := by decide +kernel
theorem dX6_lay_7 : decode cX6_lay 7 = .ok (.iload_n 2, 1) := by decide +kernel
theorem dX6_lay_8 : decode cX6_lay 8 = .ok (.iadd, 1) := by decide +kernel
theorem dX6_lay_9 : decode cX6_lay 9 = .ok (.iload_n 3, 1) := by decide +kernel
theorem dX6_lay_10 : decode cX6_lay 10 = .ok (.iastore, 1) := by decide +kernel
theorem dX6_lay_11 : decode cX6_lay 11 = .ok (.aload_n 0, 1) := by decide +kernel
theorem dX6_lay_12 : decode cX6_lay 12 = .ok (.getfield 19, 3) := by decide +kernel
theorem dX6_lay_15 : decode cX6_lay 15 = .ok (.iconst 2, 1) := by decide +kernel
theorem dX6_lay_16 : decode cX6_lay 16 = .ok (.iload_n 1, 1) := by decide +kernel
theorem dX6_lay_17 : decode cX6_lay 17 = .ok (.imul, 1) := by decide +kernel
theorem dX6_lay_18 : decode cX6_lay 18 = .ok (.iload_n 2, 1) := by decide +kernel
theorem dX6_lay_19 : decode cX6_lay 19 = .ok (.iadd, 1) := by decide +kernel
theorem dX6_lay_20 : decode cX6_lay 20 = .ok (.dup2, 1) := by decide +kernel
theorem dX6_lay_21 : decode cX6_lay 21 = .ok (.iaload, 1) := by decide +kernel
theorem dX6_lay_22 : decode cX6_lay 22 = .ok (.iconst 1, 1) := by decide +kernel
theorem dX6_lay_23 : decode cX6_lay 23 = .ok (.iadd, 1) := by decide +kernel
theorem dX6_lay_24 : decode cX6_lay 24 = .ok (.iastore, 1) := by decide +kernel
theorem dX6_lay_25 : decode cX6_lay 25 = .ok (.aload_n 0, 1) := by decide +kernel
theorem dX6_lay_26 : decode cX6_lay 26 = .ok (.getfield 19, 3) := by decide +kernel
theorem dX6_lay_29 : decode cX6_lay 29 = .ok (.iconst 2, 1) := by decide +kernel
theorem dX6_lay_30 : decode cX6_lay 30 = .ok (.iload_n 1, 1) := by decide +kernel
theorem dX6_lay_31 : decode cX6_lay 31 = .ok (.imul, 1) := by decide +kernel
theorem dX6_lay_32 : decode cX6_lay 32 = .ok (.iload_n 2, 1) := by decide +kernel
theorem dX6_lay_33 : decode cX6_lay 33 = .ok (.iadd, 1) := by decide +kernel
theorem dX6_lay_34 : decode cX6_lay 34 = .ok (.iaload, 1) := by decide +kernel
theorem dX6_lay_35 : decode cX6_lay 35 = .ok (.ireturn, 1) := by decide +kernel
theorem dX6_set_0 : decode cX6_set 0 = .ok (.aload_n 0, 1) := by decide +kernel
theorem dX6_set_1 : decode cX6_set 1 = .ok (.aload_n 0, 1) := by decide +kernel
theorem dX6_set_2 : decode cX6_set 2 = .ok (.iload_n 1, 1) := by decide +kernel
theorem dX6_set_3 : decode cX6_set 3 = .ok (.invokevirtual 96, 3) := by decide +kernel
theorem dX6_set_6 : decode cX6_set 6 = .ok (.ifCond .ne 7, 3) := by decide +kernel
theorem dX6_set_9 : decode cX6_set 9 = .ok (.iconst 1, 1) := by decide +kernel
theorem dX6_set_10 : decode cX6_set 10 = .ok (.goto 16, 3) := by decide +kernel
theorem dX6_set_13 : decode cX6_set 13 = .ok (.iload_n 2, 1) := by decide +kernel
theorem dX6_set_14 : decode cX6_set 14 = .ok (.iload_n 3, 1) := by decide +kernel
theorem dX6_set_15 : decode cX6_set 15 = .ok (.invokestatic 99, 3) := by decide +kernel
theorem dX6_set_18 : decode cX6_set 18 = .ok (.ifCond .eq 7, 3) := by decide +kernel
theorem dX6_set_21 : decode cX6_set 21 = .ok (.iconst 0, 1) := by decide +kernel
theorem dX6_set_22 : decode cX6_set 22 = .ok (.goto 4, 3) := by decide +kernel
theorem dX6_set_25 : decode cX6_set 25 = .ok (.iconst 2, 1) := by decide +kernel
theorem dX6_set_26 : decode cX6_set 26 = .ok (.invokevirtual 89, 3) := by decide +kernel
theorem dX6_set_29 : decode cX6_set 29 = .ok (.ifCond .eq 7, 3) := by decide +kernel
theorem dX6_set_32 : decode cX6_set 32 = .ok (.iconst 0, 1) := by decide +kernel
theorem dX6_set_33 : decode cX6_set 33 = .ok (.goto 10, 3) := by decide +kernel
theorem dX6_set_36 : decode cX6_set 36 = .ok (.aload_n 0, 1) := by decide +kernel
theorem dX6_set_37 : decode cX6_set 37 = .ok (.iload_n 1, 1) := by decide +kernel
theorem dX6_set_38 : decode cX6_set 38 = .ok (.iload_n 2, 1) := by decide +kernel
theorem dX6_set_39 : decode cX6_set 39 = .ok (.iload_n 3, 1) := by decide +kernel
theorem dX6_set_40 : decode cX6_set 40 = .ok (.invokevirtual 103, 3) := by decide +kernel
theorem dX6_set_43 : decode cX6_set 43 = .ok (.ireturn, 1) := by decide +kernel
theorem dX6_jobs_0 : decode cX6_jobs 0 = .ok (.aload_n 0, 1) := by decide +kernel
theorem dX6_jobs_1 : decode cX6_jobs 1 = .ok (.aload_n 0, 1) := by decide +kernel
theorem dX6_jobs_2 : decode cX6_jobs 2 = .ok (.getfield 79, 3) := by decide +kernel
theorem dX6_jobs_5 : decode cX6_jobs 5 = .ok (.invokevirtual 107, 3) := by decide +kernel
theorem dX6_jobs_8 : decode cX6_jobs 8 = .ok (.ireturn, 1) := by decide +kernel
theorem dX6_noJob_0 : decode cX6_noJob 0 = .ok (.aload_n 0, 1) := by decide +kernel
theorem dX6_noJob_1 : decode cX6_noJob 1 = .ok (.aload_n 0, 1) := by decide +kernel
theorem dX6_noJob_2 : decode cX6_noJob 2 = .ok (.iload_n 1, 1) := by decide +kernel
theorem dX6_noJob_3 : decode cX6_noJob 3 = .ok (.invokevirtual 96, 3) := by decide +kernel
theorem dX6_noJob_6 : decode cX6_noJob 6 = .ok (.ifCond .eq 7, 3) := by decide +kernel
theorem dX6_noJob_9 : decode cX6_noJob 9 = .ok (.iconst 0, 1) := by decide +kernel
theorem dX6_noJob_10 : decode cX6_noJob 10 = .ok (.goto 4, 3) := by decide +kernel
theorem dX6_noJob_13 : decode cX6_noJob 13 = .ok (.iconst 1, 1) := by decide +kernel
theorem dX6_noJob_14 : decode cX6_noJob 14 = .ok (.invokevirtual 89, 3) := by decide +kernel
theorem dX6_noJob_17 : decode cX6_noJob 17 = .ok (.ireturn, 1) := by decide +kernel
theorem dX6_crew_0 : decode cX6_crew 0 = .ok (.aload_n 0, 1) := by decide +kernel
theorem dX6_crew_1 : decode cX6_crew 1 = .ok (.iload_n 1, 1) := by decide +kernel
theorem dX6_crew_2 : decode cX6_crew 2 = .ok (.invokevirtual 111, 3) := by decide +kernel
theorem dX6_crew_5 : decode cX6_crew 5 = .ok (.ifCond .eq 7, 3) := by decide +kernel
theorem dX6_crew_8 : decode cX6_crew 8 = .ok (.iconst 0, 1) := by decide +kernel
theorem dX6_crew_9 : decode cX6_crew 9 = .ok (.goto 9, 3) := by decide +kernel
theorem dX6_crew_12 : decode cX6_crew 12 = .ok (.aload_n 0, 1) := by decide +kernel
theorem dX6_crew_13 : decode cX6_crew 13 = .ok (.getfield 7, 3) := by decide +kernel
theorem dX6_crew_16 : decode cX6_crew 16 = .ok (.iload_n 1, 1) := by decide +kernel
theorem dX6_crew_17 : decode cX6_crew 17 = .ok (.iaload, 1) := by decide +kernel
theorem dX6_crew_18 : decode cX6_crew 18 = .ok (.ireturn, 1) := by decide +kernel
theorem dX6_site_0 : decode cX6_site 0 = .ok (.aload_n 0, 1) := by decide +kernel
theorem dX6_site_1 : decode cX6_site 1 = .ok (.iload_n 1, 1) := by decide +kernel
theorem dX6_site_2 : decode cX6_site 2 = .ok (.invokevirtual 111, 3) := by decide +kernel
theorem dX6_site_5 : decode cX6_site 5 = .ok (.ifCond .eq 7, 3) := by decide +kernel
theorem dX6_site_8 : decode cX6_site 8 = .ok (.iconst 0, 1) := by decide +kernel
theorem dX6_site_9 : decode cX6_site 9 = .ok (.goto 9, 3) := by decide +kernel
theorem dX6_site_12 : decode cX6_site 12 = .ok (.aload_n 0, 1) := by decide +kernel
theorem dX6_site_13 : decode cX6_site 13 = .ok (.getfield 13, 3) := by decide +kernel
theorem dX6_site_16 : decode cX6_site 16 = .ok (.iload_n 1, 1) := by decide +kernel
theorem dX6_site_17 : decode cX6_site 17 = .ok (.iaload, 1) := by decide +kernel
theorem dX6_site_18 : decode cX6_site 18 = .ok (.ireturn, 1) := by decide +kernel
theorem dX6_noField_0 : decode cX6_noField 0 = .ok (.aload_n 0, 1) := by decide +kernel
theorem dX6_noField_1 : decode cX6_noField 1 = .ok (.aload_n 0, 1) := by decide +kernel
theorem dX6_noField_2 : decode cX6_noField 2 = .ok (.iload_n 1, 1) := by decide +kernel
theorem dX6_noField_3 : decode cX6_noField 3 = .ok (.invokevirtual 96, 3) := by decide +kernel
theorem dX6_noField_6 : decode cX6_noField 6 = .ok (.ifCond .ne 7, 3) := by decide +kernel
theorem dX6_noField_9 : decode cX6_noField 9 = .ok (.iconst 1, 1) := by decide +kernel
theorem dX6_noField_10 : decode cX6_noField 10 = .ok (.goto 15, 3) := by decide +kernel
theorem dX6_noField_13 : decode cX6_noField 13 = .ok (.iload_n 2, 1) := by decide +kernel
theorem dX6_noField_14 : decode cX6_noField 14 = .ok (.invokestatic 82, 3) := by decide +kernel
theorem dX6_noField_17 : decode cX6_noField 17 = .ok (.ifCond .eq 7, 3) := by decide +kernel
theorem dX6_noField_20 : decode cX6_noField 20 = .ok (.iconst 0, 1) := by decide +kernel
theorem dX6_noField_21 : decode cX6_noField 21 = .ok (.goto 4, 3) := by decide +kernel
theorem dX6_noField_24 : decode cX6_noField 24 = .ok (.iconst 2, 1) := by decide +kernel
theorem dX6_noField_25 : decode cX6_noField 25 = .ok (.invokevirtual 89, 3) := by decide +kernel
theorem dX6_noField_28 : decode cX6_noField 28 = .ok (.ireturn, 1) := by decide +kernel
theorem dX6_value_0 : decode cX6_value 0 = .ok (.aload_n 0, 1) := by decide +kernel
theorem dX6_value_1 : decode cX6_value 1 = .ok (.iload_n 1, 1) := by decide +kernel
theorem dX6_value_2 : decode cX6_value 2 = .ok (.iload_n 2, 1) := by decide +kernel
theorem dX6_value_3 : decode cX6_value 3 = .ok (.invokevirtual 114, 3) := by decide +kernel
theorem dX6_value_6 : decode cX6_value 6 = .ok (.ifCond .eq 7, 3) := by decide +kernel
theorem dX6_value_9 : decode cX6_value 9 = .ok (.iconst 0, 1) := by decide +kernel
theorem dX6_value_10 : decode cX6_value 10 = .ok (.goto 13, 3) := by decide +kernel
theorem dX6_value_13 : decode cX6_value 13 = .ok (.aload_n 0, 1) := by decide +kernel
theorem dX6_value_14 : decode cX6_value 14 = .ok (.getfield 16, 3) := by decide +kernel
theorem dX6_value_17 : decode cX6_value 17 = .ok (.iconst 2, 1) := by decide +kernel
theorem dX6_value_18 : decode cX6_value 18 = .ok (.iload_n 1, 1) := by decide +kernel
theorem dX6_value_19 : decode cX6_value 19 = .ok (.imul, 1) := by decide +kernel
theorem dX6_value_20 : decode cX6_value 20 = .ok (.iload_n 2, 1) := by decide +kernel
theorem dX6_value_21 : decode cX6_value 21 = .ok (.iadd, 1) := by decide +kernel
theorem dX6_value_22 : decode cX6_value 22 = .ok (.iaload, 1) := by decide +kernel
theorem dX6_value_23 : decode cX6_value 23 = .ok (.ireturn, 1) := by decide +kernel
theorem dX6_version_0 : decode cX6_version 0 = .ok (.aload_n 0, 1) := by decide +kernel
theorem dX6_version_1 : decode cX6_version 1 = .ok (.iload_n 1, 1) := by decide +kernel
theorem dX6_version_2 : decode cX6_version 2 = .ok (.iload_n 2, 1) := by decide +kernel
theorem dX6_version_3 : decode cX6_version 3 = .ok (.invokevirtual 114, 3) := by decide +kernel
theorem dX6_version_6 : decode cX6_version 6 = .ok (.ifCond .eq 7, 3) := by decide +kernel
theorem dX6_version_9 : decode cX6_version 9 = .ok (.iconst 0, 1) := by decide +kernel
theorem dX6_version_10 : decode cX6_version 10 = .ok (.goto 13, 3) := by decide +kernel
theorem dX6_version_13 : decode cX6_version 13 = .ok (.aload_n 0, 1) := by decide +kernel
theorem dX6_version_14 : decode cX6_version 14 = .ok (.getfield 19, 3) := by decide +kernel
theorem dX6_version_17 : decode cX6_version 17 = .ok (.iconst 2, 1) := by decide +kernel
theorem dX6_version_18 : decode cX6_version 18 = .ok (.iload_n 1, 1) := by decide +kernel
theorem dX6_version_19 : decode cX6_version 19 = .ok (.imul, 1) := by decide +kernel
theorem dX6_version_20 : decode cX6_version 20 = .ok (.iload_n 2, 1) := by decide +kernel
theorem dX6_version_21 : decode cX6_version 21 = .ok (.iadd, 1) := by decide +kernel
theorem dX6_version_22 : decode cX6_version 22 = .ok (.iaload, 1) := by decide +kernel
theorem dX6_version_23 : decode cX6_version 23 = .ok (.ireturn, 1) := by decide +kernel
theorem dX6_noDevice_0 : decode cX6_noDevice 0 = .ok (.aload_n 0, 1) := by decide +kernel
theorem dX6_noDevice_1 : decode cX6_noDevice 1 = .ok (.iload_n 1, 1) := by decide +kernel
theorem dX6_noDevice_2 : decode cX6_noDevice 2 = .ok (.invokestatic 86, 3) := by decide +kernel
theorem dX6_noDevice_5 : decode cX6_noDevice 5 = .ok (.ifCond .eq 7, 3) := by decide +kernel
theorem dX6_noDevice_8 : decode cX6_noDevice 8 = .ok (.iconst 0, 1) := by decide +kernel
theorem dX6_noDevice_9 : decode cX6_noDevice 9 = .ok (.goto 4, 3) := by decide +kernel
theorem dX6_noDevice_12 : decode cX6_noDevice 12 = .ok (.iconst 1, 1) := by decide +kernel
theorem dX6_noDevice_13 : decode cX6_noDevice 13 = .ok (.invokevirtual 89, 3) := by decide +kernel
theorem dX6_noDevice_16 : decode cX6_noDevice 16 = .ok (.ireturn, 1) := by decide +kernel
theorem dX6_setRoom_0 : decode cX6_setRoom 0 = .ok (.aload_n 0, 1) := by decide +kernel
theorem dX6_setRoom_1 : decode cX6_setRoom 1 = .ok (.iload_n 1, 1) := by decide +kernel
theorem dX6_setRoom_2 : decode cX6_setRoom 2 = .ok (.invokestatic 86, 3) := by decide +kernel
theorem dX6_setRoom_5 : decode cX6_setRoom 5 = .ok (.ifCond .ne 7, 3) := by decide +kernel
theorem dX6_setRoom_8 : decode cX6_setRoom 8 = .ok (.iconst 1, 1) := by decide +kernel
theorem dX6_setRoom_9 : decode cX6_setRoom 9 = .ok (.goto 18, 3) := by decide +kernel
theorem dX6_setRoom_12 : decode cX6_setRoom 12 = .ok (.iload_n 2, 1) := by decide +kernel
theorem dX6_setRoom_13 : decode cX6_setRoom 13 = .ok (.iconst 0, 1) := by decide +kernel
theorem dX6_setRoom_14 : decode cX6_setRoom 14 = .ok (.bipush 40, 2) := by decide +kernel
theorem dX6_setRoom_16 : decode cX6_setRoom 16 = .ok (.invokestatic 75, 3) := by decide +kernel
theorem dX6_setRoom_19 : decode cX6_setRoom 19 = .ok (.ifCond .eq 7, 3) := by decide +kernel
theorem dX6_setRoom_22 : decode cX6_setRoom 22 = .ok (.iconst 0, 1) := by decide +kernel
theorem dX6_setRoom_23 : decode cX6_setRoom 23 = .ok (.goto 4, 3) := by decide +kernel
theorem dX6_setRoom_26 : decode cX6_setRoom 26 = .ok (.iconst 2, 1) := by decide +kernel
theorem dX6_setRoom_27 : decode cX6_setRoom 27 = .ok (.invokevirtual 89, 3) := by decide +kernel
theorem dX6_setRoom_30 : decode cX6_setRoom 30 = .ok (.ifCond .eq 5, 3) := by decide +kernel
theorem dX6_setRoom_33 : decode cX6_setRoom 33 = .ok (.iconst 0, 1) := by decide +kernel
theorem dX6_setRoom_34 : decode cX6_setRoom 34 = .ok (.ireturn, 1) := by decide +kernel
theorem dX6_setRoom_35 : decode cX6_setRoom 35 = .ok (.aload_n 0, 1) := by decide +kernel
theorem dX6_setRoom_36 : decode cX6_setRoom 36 = .ok (.getfield 22, 3) := by decide +kernel
theorem dX6_setRoom_39 : decode cX6_setRoom 39 = .ok (.iload_n 1, 1) := by decide +kernel
theorem dX6_setRoom_40 : decode cX6_setRoom 40 = .ok (.iaload, 1) := by decide +kernel
theorem dX6_setRoom_41 : decode cX6_setRoom 41 = .ok (.istore_n 3, 1) := by decide +kernel
theorem dX6_setRoom_42 : decode cX6_setRoom 42 = .ok (.aload_n 0, 1) := by decide +kernel
theorem dX6_setRoom_43 : decode cX6_setRoom 43 = .ok (.getfield 22, 3) := by decide +kernel
theorem dX6_setRoom_46 : decode cX6_setRoom 46 = .ok (.iload_n 1, 1) := by decide +kernel
theorem dX6_setRoom_47 : decode cX6_setRoom 47 = .ok (.iload_n 2, 1) := by decide +kernel
theorem dX6_setRoom_48 : decode cX6_setRoom 48 = .ok (.iastore, 1) := by decide +kernel
theorem dX6_setRoom_49 : decode cX6_setRoom 49 = .ok (.iload_n 3, 1) := by decide +kernel
theorem dX6_setRoom_50 : decode cX6_setRoom 50 = .ok (.ireturn, 1) := by decide +kernel
theorem dX6_ownPlace_0 : decode cX6_ownPlace 0 = .ok (.iload_n 2, 1) := by decide +kernel
theorem dX6_ownPlace_1 : decode cX6_ownPlace 1 = .ok (.sipush 1000, 3) := by decide +kernel
theorem dX6_ownPlace_4 : decode cX6_ownPlace 4 = .ok (.sipush 1000, 3) := by decide +kernel
theorem dX6_ownPlace_7 : decode cX6_ownPlace 7 = .ok (.aload_n 0, 1) := by decide +kernel
theorem dX6_ownPlace_8 : decode cX6_ownPlace 8 = .ok (.getfield 35, 3) := by decide +kernel
theorem dX6_ownPlace_11 : decode cX6_ownPlace 11 = .ok (.iload_n 1, 1) := by decide +kernel
theorem dX6_ownPlace_12 : decode cX6_ownPlace 12 = .ok (.iaload, 1) := by decide +kernel
theorem dX6_ownPlace_13 : decode cX6_ownPlace 13 = .ok (.iadd, 1) := by decide +kernel
theorem dX6_ownPlace_14 : decode cX6_ownPlace 14 = .ok (.iconst 1, 1) := by decide +kernel
theorem dX6_ownPlace_15 : decode cX6_ownPlace 15 = .ok (.isub, 1) := by decide +kernel
theorem dX6_ownPlace_16 : decode cX6_ownPlace 16 = .ok (.invokestatic 75, 3) := by decide +kernel
theorem dX6_ownPlace_19 : decode cX6_ownPlace 19 = .ok (.ifCond .eq 17, 3) := by decide +kernel
theorem dX6_ownPlace_22 : decode cX6_ownPlace 22 = .ok (.sipush 600, 3) := by decide +kernel
theorem dX6_ownPlace_25 : decode cX6_ownPlace 25 = .ok (.iload_n 1, 1) := by decide +kernel
theorem dX6_ownPlace_26 : decode cX6_ownPlace 26 = .ok (.imul, 1) := by decide +kernel
theorem dX6_ownPlace_27 : decode cX6_ownPlace 27 = .ok (.iload_n 2, 1) := by decide +kernel
theorem dX6_ownPlace_28 : decode cX6_ownPlace 28 = .ok (.iadd, 1) := by decide +kernel
theorem dX6_ownPlace_29 : decode cX6_ownPlace 29 = .ok (.sipush 1000, 3) := by decide +kernel
theorem dX6_ownPlace_32 : decode cX6_ownPlace 32 = .ok (.isub, 1) := by decide +kernel
theorem dX6_ownPlace_33 : decode cX6_ownPlace 33 = .ok (.goto 4, 3) := by decide +kernel
theorem dX6_ownPlace_36 : decode cX6_ownPlace 36 = .ok (.iconst (-1), 1) := by decide +kernel
theorem dX6_ownPlace_37 : decode cX6_ownPlace 37 = .ok (.ireturn, 1) := by decide +kernel
theorem dX6_named_0 : decode cX6_named 0 = .ok (.aload_n 0, 1) := by decide +kernel
theorem dX6_named_1 : decode cX6_named 1 = .ok (.iload_n 1, 1) := by decide +kernel
theorem dX6_named_2 : decode cX6_named 2 = .ok (.iload_n 2, 1) := by decide +kernel
theorem dX6_named_3 : decode cX6_named 3 = .ok (.invokevirtual 117, 3) := by decide +kernel
theorem dX6_named_6 : decode cX6_named 6 = .ok (.istore_n 3, 1) := by decide +kernel
theorem dX6_named_7 : decode cX6_named 7 = .ok (.iload_n 3, 1) := by decide +kernel
theorem dX6_named_8 : decode cX6_named 8 = .ok (.iconst (-1), 1) := by decide +kernel
theorem dX6_named_9 : decode cX6_named 9 = .ok (.if_icmp .eq 22, 3) := by decide +kernel
theorem dX6_named_12 : decode cX6_named 12 = .ok (.aload_n 0, 1) := by decide +kernel
theorem dX6_named_13 : decode cX6_named 13 = .ok (.getfield 38, 3) := by decide +kernel
theorem dX6_named_16 : decode cX6_named 16 = .ok (.iload_n 3, 1) := by decide +kernel
theorem dX6_named_17 : decode cX6_named 17 = .ok (.iaload, 1) := by decide +kernel
theorem dX6_named_18 : decode cX6_named 18 = .ok (.iconst (-1), 1) := by decide +kernel
theorem dX6_named_19 : decode cX6_named 19 = .ok (.if_icmp .eq 12, 3) := by decide +kernel
theorem dX6_named_22 : decode cX6_named 22 = .ok (.aload_n 0, 1) := by decide +kernel
theorem dX6_named_23 : decode cX6_named 23 = .ok (.getfield 38, 3) := by decide +kernel
theorem dX6_named_26 : decode cX6_named 26 = .ok (.iload_n 3, 1) := by decide +kernel
theorem dX6_named_27 : decode cX6_named 27 = .ok (.iaload, 1) := by decide +kernel
theorem dX6_named_28 : decode cX6_named 28 = .ok (.goto 4, 3) := by decide +kernel
theorem dX6_named_31 : decode cX6_named 31 = .ok (.iload_n 2, 1) := by decide +kernel
theorem dX6_named_32 : decode cX6_named 32 = .ok (.ireturn, 1) := by decide +kernel
theorem dX6_has_0 : decode cX6_has 0 = .ok (.aload_n 0, 1) := by decide +kernel
theorem dX6_has_1 : decode cX6_has 1 = .ok (.iload_n 1, 1) := by decide +kernel
theorem dX6_has_2 : decode cX6_has 2 = .ok (.iload_n 2, 1) := by decide +kernel
theorem dX6_has_3 : decode cX6_has 3 = .ok (.invokevirtual 120, 3) := by decide +kernel
theorem dX6_has_6 : decode cX6_has 6 = .ok (.istore_n 3, 1) := by decide +kernel
theorem dX6_has_7 : decode cX6_has 7 = .ok (.aload_n 0, 1) := by decide +kernel
theorem dX6_has_8 : decode cX6_has 8 = .ok (.iload_n 3, 1) := by decide +kernel
theorem dX6_has_9 : decode cX6_has 9 = .ok (.invokevirtual 96, 3) := by decide +kernel
theorem dX6_has_12 : decode cX6_has 12 = .ok (.ifCond .eq 17, 3) := by decide +kernel
theorem dX6_has_15 : decode cX6_has 15 = .ok (.aload_n 0, 1) := by decide +kernel
theorem dX6_has_16 : decode cX6_has 16 = .ok (.getfield 25, 3) := by decide +kernel
theorem dX6_has_19 : decode cX6_has 19 = .ok (.bipush 40, 2) := by decide +kernel
theorem dX6_has_21 : decode cX6_has 21 = .ok (.iload_n 1, 1) := by decide +kernel
theorem dX6_has_22 : decode cX6_has 22 = .ok (.imul, 1) := by decide +kernel
theorem dX6_has_23 : decode cX6_has 23 = .ok (.iload_n 3, 1) := by decide +kernel
theorem dX6_has_24 : decode cX6_has 24 = .ok (.iadd, 1) := by decide +kernel
theorem dX6_has_25 : decode cX6_has 25 = .ok (.baload, 1) := by decide +kernel
theorem dX6_has_26 : decode cX6_has 26 = .ok (.goto 18, 3) := by decide +kernel
theorem dX6_has_29 : decode cX6_has 29 = .ok (.aload_n 0, 1) := by decide +kernel
theorem dX6_has_30 : decode cX6_has 30 = .ok (.iload_n 1, 1) := by decide +kernel
theorem dX6_has_31 : decode cX6_has 31 = .ok (.iload_n 3, 1) := by decide +kernel
theorem dX6_has_32 : decode cX6_has 32 = .ok (.invokevirtual 117, 3) := by decide +kernel
theorem dX6_has_35 : decode cX6_has 35 = .ok (.iconst (-1), 1) := by decide +kernel
theorem dX6_has_36 : decode cX6_has 36 = .ok (.if_icmp .eq 7, 3) := by decide +kernel
theorem dX6_has_39 : decode cX6_has 39 = .ok (.iconst 1, 1) := by decide +kernel
theorem dX6_has_40 : decode cX6_has 40 = .ok (.goto 4, 3) := by decide +kernel
theorem dX6_has_43 : decode cX6_has 43 = .ok (.iconst 0, 1) := by decide +kernel
theorem dX6_has_44 : decode cX6_has 44 = .ok (.ireturn, 1) := by decide +kernel
theorem dX6_countHeld_0 : decode cX6_countHeld 0 = .ok (.iconst 0, 1) := by decide +kernel
theorem dX6_countHeld_1 : decode cX6_countHeld 1 = .ok (.istore_n 2, 1) := by decide +kernel
theorem dX6_countHeld_2 : decode cX6_countHeld 2 = .ok (.iconst 0, 1) := by decide +kernel
theorem dX6_countHeld_3 : decode cX6_countHeld 3 = .ok (.istore_n 3, 1) := by decide +kernel
theorem dX6_countHeld_4 : decode cX6_countHeld 4 = .ok (.iload_n 3, 1) := by decide +kernel
theorem dX6_countHeld_5 : decode cX6_countHeld 5 = .ok (.bipush 40, 2) := by decide +kernel
theorem dX6_countHeld_7 : decode cX6_countHeld 7 = .ok (.if_icmp .ge 31, 3) := by decide +kernel
theorem dX6_countHeld_10 : decode cX6_countHeld 10 = .ok (.iload_n 2, 1) := by decide +kernel
theorem dX6_countHeld_11 : decode cX6_countHeld 11 = .ok (.aload_n 0, 1) := by decide +kernel
theorem dX6_countHeld_12 : decode cX6_countHeld 12 = .ok (.getfield 25, 3) := by decide +kernel
theorem dX6_countHeld_15 : decode cX6_countHeld 15 = .ok (.bipush 40, 2) := by decide +kernel
theorem dX6_countHeld_17 : decode cX6_countHeld 17 = .ok (.iload_n 1, 1) := by decide +kernel
theorem dX6_countHeld_18 : decode cX6_countHeld 18 = .ok (.imul, 1) := by decide +kernel
theorem dX6_countHeld_19 : decode cX6_countHeld 19 = .ok (.iload_n 3, 1) := by decide +kernel
theorem dX6_countHeld_20 : decode cX6_countHeld 20 = .ok (.iadd, 1) := by decide +kernel
theorem dX6_countHeld_21 : decode cX6_countHeld 21 = .ok (.baload, 1) := by decide +kernel
theorem dX6_countHeld_22 : decode cX6_countHeld 22 = .ok (.ifCond .eq 7, 3) := by decide +kernel
theorem dX6_countHeld_25 : decode cX6_countHeld 25 = .ok (.iconst 1, 1) := by decide +kernel
theorem dX6_countHeld_26 : decode cX6_countHeld 26 = .ok (.goto 4, 3) := by decide +kernel
theorem dX6_countHeld_29 : decode cX6_countHeld 29 = .ok (.iconst 0, 1) := by decide +kernel
theorem dX6_countHeld_30 : decode cX6_countHeld 30 = .ok (.iadd, 1) := by decide +kernel
theorem dX6_countHeld_31 : decode cX6_countHeld 31 = .ok (.istore_n 2, 1) := by decide +kernel
theorem dX6_countHeld_32 : decode cX6_countHeld 32 = .ok (.iinc 3 1, 3) := by decide +kernel
theorem dX6_countHeld_35 : decode cX6_countHeld 35 = .ok (.goto (-31), 3) := by decide +kernel
theorem dX6_countHeld_38 : decode cX6_countHeld 38 = .ok (.iconst 0, 1) := by decide +kernel
theorem dX6_countHeld_39 : decode cX6_countHeld 39 = .ok (.istore_n 3, 1) := by decide +kernel
theorem dX6_countHeld_40 : decode cX6_countHeld 40 = .ok (.iload_n 3, 1) := by decide +kernel
theorem dX6_countHeld_41 : decode cX6_countHeld 41 = .ok (.aload_n 0, 1) := by decide +kernel
theorem dX6_countHeld_42 : decode cX6_countHeld 42 = .ok (.getfield 35, 3) := by decide +kernel
theorem dX6_countHeld_45 : decode cX6_countHeld 45 = .ok (.iload_n 1, 1) := by decide +kernel
theorem dX6_countHeld_46 : decode cX6_countHeld 46 = .ok (.iaload, 1) := by decide +kernel
theorem dX6_countHeld_47 : decode cX6_countHeld 47 = .ok (.if_icmp .ge 33, 3) := by decide +kernel
theorem dX6_countHeld_50 : decode cX6_countHeld 50 = .ok (.iload_n 2, 1) := by decide +kernel
theorem dX6_countHeld_51 : decode cX6_countHeld 51 = .ok (.aload_n 0, 1) := by decide +kernel
theorem dX6_countHeld_52 : decode cX6_countHeld 52 = .ok (.getfield 38, 3) := by decide +kernel
theorem dX6_countHeld_55 : decode cX6_countHeld 55 = .ok (.sipush 600, 3) := by decide +kernel
theorem dX6_countHeld_58 : decode cX6_countHeld 58 = .ok (.iload_n 1, 1) := by decide +kernel
theorem dX6_countHeld_59 : decode cX6_countHeld 59 = .ok (.imul, 1) := by decide +kernel
theorem dX6_countHeld_60 : decode cX6_countHeld 60 = .ok (.iload_n 3, 1) := by decide +kernel
theorem dX6_countHeld_61 : decode cX6_countHeld 61 = .ok (.iadd, 1) := by decide +kernel
theorem dX6_countHeld_62 : decode cX6_countHeld 62 = .ok (.iaload, 1) := by decide +kernel
theorem dX6_countHeld_63 : decode cX6_countHeld 63 = .ok (.iconst (-1), 1) := by decide +kernel
theorem dX6_countHeld_64 : decode cX6_countHeld 64 = .ok (.if_icmp .ne 7, 3) := by decide +kernel
theorem dX6_countHeld_67 : decode cX6_countHeld 67 = .ok (.iconst 1, 1) := by decide +kernel
theorem dX6_countHeld_68 : decode cX6_countHeld 68 = .ok (.goto 4, 3) := by decide +kernel
theorem dX6_countHeld_71 : decode cX6_countHeld 71 = .ok (.iconst 0, 1) := by decide +kernel
theorem dX6_countHeld_72 : decode cX6_countHeld 72 = .ok (.iadd, 1) := by decide +kernel
theorem dX6_countHeld_73 : decode cX6_countHeld 73 = .ok (.istore_n 2, 1) := by decide +kernel
theorem dX6_countHeld_74 : decode cX6_countHeld 74 = .ok (.iinc 3 1, 3) := by decide +kernel
theorem dX6_countHeld_77 : decode cX6_countHeld 77 = .ok (.goto (-37), 3) := by decide +kernel
theorem dX6_countHeld_80 : decode cX6_countHeld 80 = .ok (.iload_n 2, 1) := by decide +kernel
theorem dX6_countHeld_81 : decode cX6_countHeld 81 = .ok (.ireturn, 1) := by decide +kernel
theorem dX6_fetch_0 : decode cX6_fetch 0 = .ok (.aload_n 0, 1) := by decide +kernel
theorem dX6_fetch_1 : decode cX6_fetch 1 = .ok (.iload_n 1, 1) := by decide +kernel
theorem dX6_fetch_2 : decode cX6_fetch 2 = .ok (.invokevirtual 123, 3) := by decide +kernel
theorem dX6_fetch_5 : decode cX6_fetch 5 = .ok (.ifCond .eq 5, 3) := by decide +kernel
theorem dX6_fetch_8 : decode cX6_fetch 8 = .ok (.iconst 0, 1) := by decide +kernel
theorem dX6_fetch_9 : decode cX6_fetch 9 = .ok (.ireturn, 1) := by decide +kernel
theorem dX6_fetch_10 : decode cX6_fetch 10 = .ok (.aload_n 0, 1) := by decide +kernel
theorem dX6_fetch_11 : decode cX6_fetch 11 = .ok (.getfield 22, 3) := by decide +kernel
theorem dX6_fetch_14 : decode cX6_fetch 14 = .ok (.iload_n 1, 1) := by decide +kernel
theorem dX6_fetch_15 : decode cX6_fetch 15 = .ok (.iaload, 1) := by decide +kernel
theorem dX6_fetch_16 : decode cX6_fetch 16 = .ok (.istore_n 2, 1) := by decide +kernel
theorem dX6_fetch_17 : decode cX6_fetch 17 = .ok (.iconst 0, 1) := by decide +kernel
theorem dX6_fetch_18 : decode cX6_fetch 18 = .ok (.istore_n 3, 1) := by decide +kernel
theorem dX6_fetch_19 : decode cX6_fetch 19 = .ok (.iload_n 3, 1) := by decide +kernel
theorem dX6_fetch_20 : decode cX6_fetch 20 = .ok (.bipush 40, 2) := by decide +kernel
theorem dX6_fetch_22 : decode cX6_fetch 22 = .ok (.if_icmp .ge 21, 3) := by decide +kernel
theorem dX6_fetch_25 : decode cX6_fetch 25 = .ok (.aload_n 0, 1) := by decide +kernel
theorem dX6_fetch_26 : decode cX6_fetch 26 = .ok (.getfield 25, 3) := by decide +kernel
theorem dX6_fetch_29 : decode cX6_fetch 29 = .ok (.bipush 40, 2) := by decide +kernel
theorem dX6_fetch_31 : decode cX6_fetch 31 = .ok (.iload_n 1, 1) := by decide +kernel
theorem dX6_fetch_32 : decode cX6_fetch 32 = .ok (.imul, 1) := by decide +kernel
theorem dX6_fetch_33 : decode cX6_fetch 33 = .ok (.iload_n 3, 1) := by decide +kernel
theorem dX6_fetch_34 : decode cX6_fetch 34 = .ok (.iadd, 1) := by decide +kernel
theorem dX6_fetch_35 : decode cX6_fetch 35 = .ok (.iconst 0, 1) := by decide +kernel
theorem dX6_fetch_36 : decode cX6_fetch 36 = .ok (.bastore, 1) := by decide +kernel
theorem dX6_fetch_37 : decode cX6_fetch 37 = .ok (.iinc 3 1, 3) := by decide +kernel
theorem dX6_fetch_40 : decode cX6_fetch 40 = .ok (.goto (-21), 3) := by decide +kernel
theorem dX6_fetch_43 : decode cX6_fetch 43 = .ok (.iconst 0, 1) := by decide +kernel
theorem dX6_fetch_44 : decode cX6_fetch 44 = .ok (.istore_n 3, 1) := by decide +kernel
theorem dX6_fetch_45 : decode cX6_fetch 45 = .ok (.iload_n 3, 1) := by decide +kernel
theorem dX6_fetch_46 : decode cX6_fetch 46 = .ok (.iconst 3, 1) := by decide +kernel
theorem dX6_fetch_47 : decode cX6_fetch 47 = .ok (.if_icmp .ge 86, 3) := by decide +kernel
theorem dX6_fetch_50 : decode cX6_fetch 50 = .ok (.iload_n 3, 1) := by decide +kernel
theorem dX6_fetch_51 : decode cX6_fetch 51 = .ok (.ifCond .ne 7, 3) := by decide +kernel
theorem dX6_fetch_54 : decode cX6_fetch 54 = .ok (.iconst 1, 1) := by decide +kernel
theorem dX6_fetch_55 : decode cX6_fetch 55 = .ok (.goto 13, 3) := by decide +kernel
theorem dX6_fetch_58 : decode cX6_fetch 58 = .ok (.iload_n 3, 1) := by decide +kernel
theorem dX6_fetch_59 : decode cX6_fetch 59 = .ok (.iconst 1, 1) := by decide +kernel
theorem dX6_fetch_60 : decode cX6_fetch 60 = .ok (.if_icmp .ne 7, 3) := by decide +kernel
theorem dX6_fetch_63 : decode cX6_fetch 63 = .ok (.iconst 0, 1) := by decide +kernel
theorem dX6_fetch_64 : decode cX6_fetch 64 = .ok (.goto 4, 3) := by decide +kernel
theorem dX6_fetch_67 : decode cX6_fetch 67 = .ok (.iconst 2, 1) := by decide +kernel
theorem dX6_fetch_68 : decode cX6_fetch 68 = .ok (.istore 4, 2) := by decide +kernel
theorem dX6_fetch_70 : decode cX6_fetch 70 = .ok (.iconst 0, 1) := by decide +kernel
theorem dX6_fetch_71 : decode cX6_fetch 71 = .ok (.istore 5, 2) := by decide +kernel
theorem dX6_fetch_73 : decode cX6_fetch 73 = .ok (.iload 5, 2) := by decide +kernel
theorem dX6_fetch_75 : decode cX6_fetch 75 = .ok (.aload_n 0, 1) := by decide +kernel
theorem dX6_fetch_76 : decode cX6_fetch 76 = .ok (.getfield 79, 3) := by decide +kernel
theorem dX6_fetch_79 : decode cX6_fetch 79 = .ok (.if_icmp .ge 48, 3) := by decide +kernel
theorem dX6_fetch_82 : decode cX6_fetch 82 = .ok (.iload_n 2, 1) := by decide +kernel
theorem dX6_fetch_83 : decode cX6_fetch 83 = .ok (.ifCond .le 38, 3) := by decide +kernel
theorem dX6_fetch_86 : decode cX6_fetch 86 = .ok (.aload_n 0, 1) := by decide +kernel
theorem dX6_fetch_87 : decode cX6_fetch 87 = .ok (.getfield 7, 3) := by decide +kernel
theorem dX6_fetch_90 : decode cX6_fetch 90 = .ok (.iload 5, 2) := by decide +kernel
theorem dX6_fetch_92 : decode cX6_fetch 92 = .ok (.iaload, 1) := by decide +kernel
theorem dX6_fetch_93 : decode cX6_fetch 93 = .ok (.iload_n 1, 1) := by decide +kernel
theorem dX6_fetch_94 : decode cX6_fetch 94 = .ok (.if_icmp .ne 27, 3) := by decide +kernel
theorem dX6_fetch_97 : decode cX6_fetch 97 = .ok (.aload_n 0, 1) := by decide +kernel
theorem dX6_fetch_98 : decode cX6_fetch 98 = .ok (.getfield 16, 3) := by decide +kernel
theorem dX6_fetch_101 : decode cX6_fetch 101 = .ok (.iconst 2, 1) := by decide +kernel
theorem dX6_fetch_102 : decode cX6_fetch 102 = .ok (.iload 5, 2) := by decide +kernel
theorem dX6_fetch_104 : decode cX6_fetch 104 = .ok (.imul, 1) := by decide +kernel
theorem dX6_fetch_105 : decode cX6_fetch 105 = .ok (.iaload, 1) := by decide +kernel
theorem dX6_fetch_106 : decode cX6_fetch 106 = .ok (.iload 4, 2) := by decide +kernel
theorem dX6_fetch_108 : decode cX6_fetch 108 = .ok (.if_icmp .ne 13, 3) := by decide +kernel
theorem dX6_fetch_111 : decode cX6_fetch 111 = .ok (.aload_n 0, 1) := by decide +kernel
theorem dX6_fetch_112 : decode cX6_fetch 112 = .ok (.iload_n 1, 1) := by decide +kernel
theorem dX6_fetch_113 : decode cX6_fetch 113 = .ok (.iload 5, 2) := by decide +kernel
theorem dX6_fetch_115 : decode cX6_fetch 115 = .ok (.invokevirtual 126, 3) := by decide +kernel
theorem dX6_fetch_118 : decode cX6_fetch 118 = .ok (.iinc 2 (-1), 3) := by decide +kernel
theorem dX6_fetch_121 : decode cX6_fetch 121 = .ok (.iinc 5 1, 3) := by decide +kernel
theorem dX6_fetch_124 : decode cX6_fetch 124 = .ok (.goto (-51), 3) := by decide +kernel
theorem dX6_fetch_127 : decode cX6_fetch 127 = .ok (.iinc 3 1, 3) := by decide +kernel
theorem dX6_fetch_130 : decode cX6_fetch 130 = .ok (.goto (-85), 3) := by decide +kernel
theorem dX6_fetch_133 : decode cX6_fetch 133 = .ok (.aload_n 0, 1) := by decide +kernel
theorem dX6_fetch_134 : decode cX6_fetch 134 = .ok (.iload_n 1, 1) := by decide +kernel
theorem dX6_fetch_135 : decode cX6_fetch 135 = .ok (.invokevirtual 130, 3) := by decide +kernel
theorem dX6_fetch_138 : decode cX6_fetch 138 = .ok (.ireturn, 1) := by decide +kernel
theorem dX6_hold_0 : decode cX6_hold 0 = .ok (.bipush 40, 2) := by decide +kernel
theorem dX6_hold_2 : decode cX6_hold 2 = .ok (.iload_n 1, 1) := by decide +kernel
theorem dX6_hold_3 : decode cX6_hold 3 = .ok (.imul, 1) := by decide +kernel
theorem dX6_hold_4 : decode cX6_hold 4 = .ok (.iload_n 2, 1) := by decide +kernel
theorem dX6_hold_5 : decode cX6_hold 5 = .ok (.iadd, 1) := by decide +kernel
theorem dX6_hold_6 : decode cX6_hold 6 = .ok (.istore_n 3, 1) := by decide +kernel
theorem dX6_hold_7 : decode cX6_hold 7 = .ok (.aload_n 0, 1) := by decide +kernel
theorem dX6_hold_8 : decode cX6_hold 8 = .ok (.getfield 25, 3) := by decide +kernel
theorem dX6_hold_11 : decode cX6_hold 11 = .ok (.iload_n 3, 1) := by decide +kernel
theorem dX6_hold_12 : decode cX6_hold 12 = .ok (.iconst 1, 1) := by decide +kernel
theorem dX6_hold_13 : decode cX6_hold 13 = .ok (.bastore, 1) := by decide +kernel
theorem dX6_hold_14 : decode cX6_hold 14 = .ok (.iconst 0, 1) := by decide +kernel
theorem dX6_hold_15 : decode cX6_hold 15 = .ok (.istore 4, 2) := by decide +kernel
theorem dX6_hold_17 : decode cX6_hold 17 = .ok (.iload 4, 2) := by decide +kernel
theorem dX6_hold_19 : decode cX6_hold 19 = .ok (.iconst 2, 1) := by decide +kernel
theorem dX6_hold_20 : decode cX6_hold 20 = .ok (.if_icmp .ge 53, 3) := by decide +kernel
theorem dX6_hold_23 : decode cX6_hold 23 = .ok (.aload_n 0, 1) := by decide +kernel
theorem dX6_hold_24 : decode cX6_hold 24 = .ok (.getfield 29, 3) := by decide +kernel
theorem dX6_hold_27 : decode cX6_hold 27 = .ok (.iconst 2, 1) := by decide +kernel
theorem dX6_hold_28 : decode cX6_hold 28 = .ok (.iload_n 3, 1) := by decide +kernel
theorem dX6_hold_29 : decode cX6_hold 29 = .ok (.imul, 1) := by decide +kernel
theorem dX6_hold_30 : decode cX6_hold 30 = .ok (.iload 4, 2) := by decide +kernel
theorem dX6_hold_32 : decode cX6_hold 32 = .ok (.iadd, 1) := by decide +kernel
theorem dX6_hold_33 : decode cX6_hold 33 = .ok (.aload_n 0, 1) := by decide +kernel
theorem dX6_hold_34 : decode cX6_hold 34 = .ok (.getfield 16, 3) := by decide +kernel
theorem dX6_hold_37 : decode cX6_hold 37 = .ok (.iconst 2, 1) := by decide +kernel
theorem dX6_hold_38 : decode cX6_hold 38 = .ok (.iload_n 2, 1) := by decide +kernel
theorem dX6_hold_39 : decode cX6_hold 39 = .ok (.imul, 1) := by decide +kernel
theorem dX6_hold_40 : decode cX6_hold 40 = .ok (.iload 4, 2) := by decide +kernel
theorem dX6_hold_42 : decode cX6_hold 42 = .ok (.iadd, 1) := by decide +kernel
theorem dX6_hold_43 : decode cX6_hold 43 = .ok (.iaload, 1) := by decide +kernel
theorem dX6_hold_44 : decode cX6_hold 44 = .ok (.iastore, 1) := by decide +kernel
theorem dX6_hold_45 : decode cX6_hold 45 = .ok (.aload_n 0, 1) := by decide +kernel
theorem dX6_hold_46 : decode cX6_hold 46 = .ok (.getfield 32, 3) := by decide +kernel
theorem dX6_hold_49 : decode cX6_hold 49 = .ok (.iconst 2, 1) := by decide +kernel
theorem dX6_hold_50 : decode cX6_hold 50 = .ok (.iload_n 3, 1) := by decide +kernel
theorem dX6_hold_51 : decode cX6_hold 51 = .ok (.imul, 1) := by decide +kernel
theorem dX6_hold_52 : decode cX6_hold 52 = .ok (.iload 4, 2) := by decide +kernel
theorem dX6_hold_54 : decode cX6_hold 54 = .ok (.iadd, 1) := by decide +kernel
theorem dX6_hold_55 : decode cX6_hold 55 = .ok (.aload_n 0, 1) := by decide +kernel
theorem dX6_hold_56 : decode cX6_hold 56 = .ok (.getfield 19, 3) := by decide +kernel
theorem dX6_hold_59 : decode cX6_hold 59 = .ok (.iconst 2, 1) := by decide +kernel
theorem dX6_hold_60 : decode cX6_hold 60 = .ok (.iload_n 2, 1) := by decide +kernel
theorem dX6_hold_61 : decode cX6_hold 61 = .ok (.imul, 1) := by decide +kernel
theorem dX6_hold_62 : decode cX6_hold 62 = .ok (.iload 4, 2) := by decide +kernel
theorem dX6_hold_64 : decode cX6_hold 64 = .ok (.iadd, 1) := by decide +kernel
theorem dX6_hold_65 : decode cX6_hold 65 = .ok (.iaload, 1) := by decide +kernel
theorem dX6_hold_66 : decode cX6_hold 66 = .ok (.iastore, 1) := by decide +kernel
theorem dX6_hold_67 : decode cX6_hold 67 = .ok (.iinc 4 1, 3) := by decide +kernel
theorem dX6_hold_70 : decode cX6_hold 70 = .ok (.goto (-53), 3) := by decide +kernel
theorem dX6_hold_73 : decode cX6_hold 73 = .ok (.return_, 1) := by decide +kernel
theorem dX6_held_0 : decode cX6_held 0 = .ok (.aload_n 0, 1) := by decide +kernel
theorem dX6_held_1 : decode cX6_held 1 = .ok (.iload_n 1, 1) := by decide +kernel
theorem dX6_held_2 : decode cX6_held 2 = .ok (.invokevirtual 123, 3) := by decide +kernel
theorem dX6_held_5 : decode cX6_held 5 = .ok (.ifCond .eq 7, 3) := by decide +kernel
theorem dX6_held_8 : decode cX6_held 8 = .ok (.iconst 0, 1) := by decide +kernel
theorem dX6_held_9 : decode cX6_held 9 = .ok (.goto 8, 3) := by decide +kernel
theorem dX6_held_12 : decode cX6_held 12 = .ok (.aload_n 0, 1) := by decide +kernel
theorem dX6_held_13 : decode cX6_held 13 = .ok (.iload_n 1, 1) := by decide +kernel
theorem dX6_held_14 : decode cX6_held 14 = .ok (.invokevirtual 130, 3) := by decide +kernel
theorem dX6_held_17 : decode cX6_held 17 = .ok (.ireturn, 1) := by decide +kernel
theorem dX6_holds_0 : decode cX6_holds 0 = .ok (.aload_n 0, 1) := by decide +kernel
theorem dX6_holds_1 : decode cX6_holds 1 = .ok (.iload_n 1, 1) := by decide +kernel
theorem dX6_holds_2 : decode cX6_holds 2 = .ok (.invokevirtual 123, 3) := by decide +kernel
theorem dX6_holds_5 : decode cX6_holds 5 = .ok (.ifCond .ne 16, 3) := by decide +kernel
theorem dX6_holds_8 : decode cX6_holds 8 = .ok (.aload_n 0, 1) := by decide +kernel
theorem dX6_holds_9 : decode cX6_holds 9 = .ok (.iload_n 1, 1) := by decide +kernel
theorem dX6_holds_10 : decode cX6_holds 10 = .ok (.iload_n 2, 1) := by decide +kernel
theorem dX6_holds_11 : decode cX6_holds 11 = .ok (.invokevirtual 133, 3) := by decide +kernel
theorem dX6_holds_14 : decode cX6_holds 14 = .ok (.ifCond .eq 7, 3) := by decide +kernel
theorem dX6_holds_17 : decode cX6_holds 17 = .ok (.iconst 1, 1) := by decide +kernel
theorem dX6_holds_18 : decode cX6_holds 18 = .ok (.goto 4, 3) := by decide +kernel
theorem dX6_holds_21 : decode cX6_holds 21 = .ok (.iconst 0, 1) := by decide +kernel
theorem dX6_holds_22 : decode cX6_holds 22 = .ok (.ireturn, 1) := by decide +kernel
theorem dX6_lacks_0 : decode cX6_lacks 0 = .ok (.aload_n 0, 1) := by decide +kernel
theorem dX6_lacks_1 : decode cX6_lacks 1 = .ok (.iload_n 1, 1) := by decide +kernel
theorem dX6_lacks_2 : decode cX6_lacks 2 = .ok (.invokestatic 86, 3) := by decide +kernel
theorem dX6_lacks_5 : decode cX6_lacks 5 = .ok (.ifCond .ne 7, 3) := by decide +kernel
theorem dX6_lacks_8 : decode cX6_lacks 8 = .ok (.iconst 1, 1) := by decide +kernel
theorem dX6_lacks_9 : decode cX6_lacks 9 = .ok (.goto 25, 3) := by decide +kernel
theorem dX6_lacks_12 : decode cX6_lacks 12 = .ok (.iload_n 3, 1) := by decide +kernel
theorem dX6_lacks_13 : decode cX6_lacks 13 = .ok (.ifCond .ne 7, 3) := by decide +kernel
theorem dX6_lacks_16 : decode cX6_lacks 16 = .ok (.iconst 2, 1) := by decide +kernel
theorem dX6_lacks_17 : decode cX6_lacks 17 = .ok (.goto 17, 3) := by decide +kernel
theorem dX6_lacks_20 : decode cX6_lacks 20 = .ok (.aload_n 0, 1) := by decide +kernel
theorem dX6_lacks_21 : decode cX6_lacks 21 = .ok (.iload_n 1, 1) := by decide +kernel
theorem dX6_lacks_22 : decode cX6_lacks 22 = .ok (.iload_n 2, 1) := by decide +kernel
theorem dX6_lacks_23 : decode cX6_lacks 23 = .ok (.invokevirtual 133, 3) := by decide +kernel
theorem dX6_lacks_26 : decode cX6_lacks 26 = .ok (.ifCond .eq 7, 3) := by decide +kernel
theorem dX6_lacks_29 : decode cX6_lacks 29 = .ok (.iconst 0, 1) := by decide +kernel
theorem dX6_lacks_30 : decode cX6_lacks 30 = .ok (.goto 4, 3) := by decide +kernel
theorem dX6_lacks_33 : decode cX6_lacks 33 = .ok (.iconst 3, 1) := by decide +kernel
theorem dX6_lacks_34 : decode cX6_lacks 34 = .ok (.invokevirtual 89, 3) := by decide +kernel
theorem dX6_lacks_37 : decode cX6_lacks 37 = .ok (.ireturn, 1) := by decide +kernel
theorem dX6_heldValue_0 : decode cX6_heldValue 0 = .ok (.aload_n 0, 1) := by decide +kernel
theorem dX6_heldValue_1 : decode cX6_heldValue 1 = .ok (.iload_n 1, 1) := by decide +kernel
theorem dX6_heldValue_2 : decode cX6_heldValue 2 = .ok (.iload_n 2, 1) := by decide +kernel
theorem dX6_heldValue_3 : decode cX6_heldValue 3 = .ok (.iload_n 3, 1) := by decide +kernel
theorem dX6_heldValue_4 : decode cX6_heldValue 4 = .ok (.invokestatic 82, 3) := by decide +kernel
theorem dX6_heldValue_7 : decode cX6_heldValue 7 = .ok (.invokevirtual 136, 3) := by decide +kernel
theorem dX6_heldValue_10 : decode cX6_heldValue 10 = .ok (.ifCond .eq 5, 3) := by decide +kernel
theorem dX6_heldValue_13 : decode cX6_heldValue 13 = .ok (.iconst 0, 1) := by decide +kernel
theorem dX6_heldValue_14 : decode cX6_heldValue 14 = .ok (.ireturn, 1) := by decide +kernel
theorem dX6_heldValue_15 : decode cX6_heldValue 15 = .ok (.aload_n 0, 1) := by decide +kernel
theorem dX6_heldValue_16 : decode cX6_heldValue 16 = .ok (.iload_n 1, 1) := by decide +kernel
theorem dX6_heldValue_17 : decode cX6_heldValue 17 = .ok (.iload_n 2, 1) := by decide +kernel
theorem dX6_heldValue_18 : decode cX6_heldValue 18 = .ok (.invokevirtual 120, 3) := by decide +kernel
theorem dX6_heldValue_21 : decode cX6_heldValue 21 = .ok (.istore 4, 2) := by decide +kernel
theorem dX6_heldValue_23 : decode cX6_heldValue 23 = .ok (.aload_n 0, 1) := by decide +kernel
theorem dX6_heldValue_24 : decode cX6_heldValue 24 = .ok (.iload 4, 2) := by decide +kernel
theorem dX6_heldValue_26 : decode cX6_heldValue 26 = .ok (.invokevirtual 96, 3) := by decide +kernel
theorem dX6_heldValue_29 : decode cX6_heldValue 29 = .ok (.ifCond .eq 22, 3) := by decide +kernel
theorem dX6_heldValue_32 : decode cX6_heldValue 32 = .ok (.aload_n 0, 1) := by decide +kernel
theorem dX6_heldValue_33 : decode cX6_heldValue 33 = .ok (.getfield 29, 3) := by decide +kernel
theorem dX6_heldValue_36 : decode cX6_heldValue 36 = .ok (.iconst 2, 1) := by decide +kernel
theorem dX6_heldValue_37 : decode cX6_heldValue 37 = .ok (.bipush 40, 2) := by decide +kernel
theorem dX6_heldValue_39 : decode cX6_heldValue 39 = .ok (.iload_n 1, 1) := by decide +kernel
theorem dX6_heldValue_40 : decode cX6_heldValue 40 = .ok (.imul, 1) := by decide +kernel
theorem dX6_heldValue_41 : decode cX6_heldValue 41 = .ok (.iload 4, 2) := by decide +kernel
theorem dX6_heldValue_43 : decode cX6_heldValue 43 = .ok (.iadd, 1) := by decide +kernel
theorem dX6_heldValue_44 : decode cX6_heldValue 44 = .ok (.imul, 1) := by decide +kernel
theorem dX6_heldValue_45 : decode cX6_heldValue 45 = .ok (.iload_n 3, 1) := by decide +kernel
theorem dX6_heldValue_46 : decode cX6_heldValue 46 = .ok (.iadd, 1) := by decide +kernel
theorem dX6_heldValue_47 : decode cX6_heldValue 47 = .ok (.iaload, 1) := by decide +kernel
theorem dX6_heldValue_48 : decode cX6_heldValue 48 = .ok (.goto 19, 3) := by decide +kernel
theorem dX6_heldValue_51 : decode cX6_heldValue 51 = .ok (.aload_n 0, 1) := by decide +kernel
theorem dX6_heldValue_52 : decode cX6_heldValue 52 = .ok (.getfield 41, 3) := by decide +kernel
theorem dX6_heldValue_55 : decode cX6_heldValue 55 = .ok (.iconst 2, 1) := by decide +kernel
theorem dX6_heldValue_56 : decode cX6_heldValue 56 = .ok (.aload_n 0, 1) := by decide +kernel
theorem dX6_heldValue_57 : decode cX6_heldValue 57 = .ok (.iload_n 1, 1) := by decide +kernel
theorem dX6_heldValue_58 : decode cX6_heldValue 58 = .ok (.iload 4, 2) := by decide +kernel
theorem dX6_heldValue_60 : decode cX6_heldValue 60 = .ok (.invokevirtual 117, 3) := by decide +kernel
theorem dX6_heldValue_63 : decode cX6_heldValue 63 = .ok (.imul, 1) := by decide +kernel
theorem dX6_heldValue_64 : decode cX6_heldValue 64 = .ok (.iload_n 3, 1) := by decide +kernel
theorem dX6_heldValue_65 : decode cX6_heldValue 65 = .ok (.iadd, 1) := by decide +kernel
theorem dX6_heldValue_66 : decode cX6_heldValue 66 = .ok (.iaload, 1) := by decide +kernel
theorem dX6_heldValue_67 : decode cX6_heldValue 67 = .ok (.ireturn, 1) := by decide +kernel
theorem dX6_note_0 : decode cX6_note 0 = .ok (.aload_n 0, 1) := by decide +kernel
theorem dX6_note_1 : decode cX6_note 1 = .ok (.getfield 47, 3) := by decide +kernel
theorem dX6_note_4 : decode cX6_note 4 = .ok (.aload_n 0, 1) := by decide +kernel
theorem dX6_note_5 : decode cX6_note 5 = .ok (.getfield 140, 3) := by decide +kernel
theorem dX6_note_8 : decode cX6_note 8 = .ok (.iload_n 1, 1) := by decide +kernel
theorem dX6_note_9 : decode cX6_note 9 = .ok (.iastore, 1) := by decide +kernel
theorem dX6_note_10 : decode cX6_note 10 = .ok (.aload_n 0, 1) := by decide +kernel
theorem dX6_note_11 : decode cX6_note 11 = .ok (.getfield 50, 3) := by decide +kernel
theorem dX6_note_14 : decode cX6_note 14 = .ok (.aload_n 0, 1) := by decide +kernel
theorem dX6_note_15 : decode cX6_note 15 = .ok (.getfield 140, 3) := by decide +kernel
theorem dX6_note_18 : decode cX6_note 18 = .ok (.iload_n 2, 1) := by decide +kernel
theorem dX6_note_19 : decode cX6_note 19 = .ok (.iastore, 1) := by decide +kernel
theorem dX6_note_20 : decode cX6_note 20 = .ok (.aload_n 0, 1) := by decide +kernel
theorem dX6_note_21 : decode cX6_note 21 = .ok (.getfield 53, 3) := by decide +kernel
theorem dX6_note_24 : decode cX6_note 24 = .ok (.aload_n 0, 1) := by decide +kernel
theorem dX6_note_25 : decode cX6_note 25 = .ok (.getfield 140, 3) := by decide +kernel
theorem dX6_note_28 : decode cX6_note 28 = .ok (.iload_n 3, 1) := by decide +kernel
theorem dX6_note_29 : decode cX6_note 29 = .ok (.iastore, 1) := by decide +kernel
theorem dX6_note_30 : decode cX6_note 30 = .ok (.aload_n 0, 1) := by decide +kernel
theorem dX6_note_31 : decode cX6_note 31 = .ok (.getfield 56, 3) := by decide +kernel
theorem dX6_note_34 : decode cX6_note 34 = .ok (.aload_n 0, 1) := by decide +kernel
theorem dX6_note_35 : decode cX6_note 35 = .ok (.getfield 140, 3) := by decide +kernel
theorem dX6_note_38 : decode cX6_note 38 = .ok (.iload 4, 2) := by decide +kernel
theorem dX6_note_40 : decode cX6_note 40 = .ok (.iastore, 1) := by decide +kernel
theorem dX6_note_41 : decode cX6_note 41 = .ok (.aload_n 0, 1) := by decide +kernel
theorem dX6_note_42 : decode cX6_note 42 = .ok (.getfield 59, 3) := by decide +kernel
theorem dX6_note_45 : decode cX6_note 45 = .ok (.aload_n 0, 1) := by decide +kernel
theorem dX6_note_46 : decode cX6_note 46 = .ok (.getfield 140, 3) := by decide +kernel
theorem dX6_note_49 : decode cX6_note 49 = .ok (.iload 5, 2) := by decide +kernel
theorem dX6_note_51 : decode cX6_note 51 = .ok (.iastore, 1) := by decide +kernel
theorem dX6_note_52 : decode cX6_note 52 = .ok (.aload_n 0, 1) := by decide +kernel
theorem dX6_note_53 : decode cX6_note 53 = .ok (.dup, 1) := by decide +kernel
theorem dX6_note_54 : decode cX6_note 54 = .ok (.getfield 140, 3) := by decide +kernel
theorem dX6_note_57 : decode cX6_note 57 = .ok (.iconst 1, 1) := by decide +kernel
theorem dX6_note_58 : decode cX6_note 58 = .ok (.iadd, 1) := by decide +kernel
theorem dX6_note_59 : decode cX6_note 59 = .ok (.putfield 140, 3) := by decide +kernel
theorem dX6_note_62 : decode cX6_note 62 = .ok (.return_, 1) := by decide +kernel
theorem dX6_countWaiting_0 : decode cX6_countWaiting 0 = .ok (.iconst 0, 1) := by decide +kernel
theorem dX6_countWaiting_1 : decode cX6_countWaiting 1 = .ok (.istore_n 2, 1) := by decide +kernel
theorem dX6_countWaiting_2 : decode cX6_countWaiting 2 = .ok (.iconst 0, 1) := by decide +kernel
theorem dX6_countWaiting_3 : decode cX6_countWaiting 3 = .ok (.istore_n 3, 1) := by decide +kernel
theorem dX6_countWaiting_4 : decode cX6_countWaiting 4 = .ok (.iload_n 3, 1) := by decide +kernel
theorem dX6_countWaiting_5 : decode cX6_countWaiting 5 = .ok (.aload_n 0, 1) := by decide +kernel
theorem dX6_countWaiting_6 : decode cX6_countWaiting 6 = .ok (.getfield 140, 3) := by decide +kernel
theorem dX6_countWaiting_9 : decode cX6_countWaiting 9 = .ok (.if_icmp .ge 36, 3) := by decide +kernel
theorem dX6_countWaiting_12 : decode cX6_countWaiting 12 = .ok (.iload_n 2, 1) := by decide +kernel
theorem dX6_countWaiting_13 : decode cX6_countWaiting 13 = .ok (.aload_n 0, 1) := by decide +kernel
theorem dX6_countWaiting_14 : decode cX6_countWaiting 14 = .ok (.getfield 47, 3) := by decide +kernel
theorem dX6_countWaiting_17 : decode cX6_countWaiting 17 = .ok (.iload_n 3, 1) := by decide +kernel
theorem dX6_countWaiting_18 : decode cX6_countWaiting 18 = .ok (.iaload, 1) := by decide +kernel
theorem dX6_countWaiting_19 : decode cX6_countWaiting 19 = .ok (.iload_n 1, 1) := by decide +kernel
theorem dX6_countWaiting_20 : decode cX6_countWaiting 20 = .ok (.if_icmp .ne 16, 3) := by decide +kernel
theorem dX6_countWaiting_23 : decode cX6_countWaiting 23 = .ok (.aload_n 0, 1) := by decide +kernel
theorem dX6_countWaiting_24 : decode cX6_countWaiting 24 = .ok (.getfield 62, 3) := by decide +kernel
theorem dX6_countWaiting_27 : decode cX6_countWaiting 27 = .ok (.iload_n 3, 1) := by decide +kernel
theorem dX6_countWaiting_28 : decode cX6_countWaiting 28 = .ok (.iaload, 1) := by decide +kernel
theorem dX6_countWaiting_29 : decode cX6_countWaiting 29 = .ok (.ifCond .ne 7, 3) := by decide +kernel
theorem dX6_countWaiting_32 : decode cX6_countWaiting 32 = .ok (.iconst 1, 1) := by decide +kernel
theorem dX6_countWaiting_33 : decode cX6_countWaiting 33 = .ok (.goto 4, 3) := by decide +kernel
theorem dX6_countWaiting_36 : decode cX6_countWaiting 36 = .ok (.iconst 0, 1) := by decide +kernel
theorem dX6_countWaiting_37 : decode cX6_countWaiting 37 = .ok (.iadd, 1) := by decide +kernel
theorem dX6_countWaiting_38 : decode cX6_countWaiting 38 = .ok (.istore_n 2, 1) := by decide +kernel
theorem dX6_countWaiting_39 : decode cX6_countWaiting 39 = .ok (.iinc 3 1, 3) := by decide +kernel
theorem dX6_countWaiting_42 : decode cX6_countWaiting 42 = .ok (.goto (-38), 3) := by decide +kernel
theorem dX6_countWaiting_45 : decode cX6_countWaiting 45 = .ok (.iload_n 2, 1) := by decide +kernel
theorem dX6_countWaiting_46 : decode cX6_countWaiting 46 = .ok (.ireturn, 1) := by decide +kernel
theorem dX6_change_0 : decode cX6_change 0 = .ok (.aload_n 0, 1) := by decide +kernel
theorem dX6_change_1 : decode cX6_change 1 = .ok (.iload_n 1, 1) := by decide +kernel
theorem dX6_change_2 : decode cX6_change 2 = .ok (.iload_n 2, 1) := by decide +kernel
theorem dX6_change_3 : decode cX6_change 3 = .ok (.iload_n 3, 1) := by decide +kernel
theorem dX6_change_4 : decode cX6_change 4 = .ok (.iload 4, 2) := by decide +kernel
theorem dX6_change_6 : decode cX6_change 6 = .ok (.invokestatic 99, 3) := by decide +kernel
theorem dX6_change_9 : decode cX6_change 9 = .ok (.invokevirtual 136, 3) := by decide +kernel
theorem dX6_change_12 : decode cX6_change 12 = .ok (.ifCond .eq 5, 3) := by decide +kernel
theorem dX6_change_15 : decode cX6_change 15 = .ok (.iconst 0, 1) := by decide +kernel
theorem dX6_change_16 : decode cX6_change 16 = .ok (.ireturn, 1) := by decide +kernel
theorem dX6_change_17 : decode cX6_change 17 = .ok (.aload_n 0, 1) := by decide +kernel
theorem dX6_change_18 : decode cX6_change 18 = .ok (.iload_n 1, 1) := by decide +kernel
theorem dX6_change_19 : decode cX6_change 19 = .ok (.iload_n 2, 1) := by decide +kernel
theorem dX6_change_20 : decode cX6_change 20 = .ok (.invokevirtual 120, 3) := by decide +kernel
theorem dX6_change_23 : decode cX6_change 23 = .ok (.istore 5, 2) := by decide +kernel
theorem dX6_change_25 : decode cX6_change 25 = .ok (.aload_n 0, 1) := by decide +kernel
theorem dX6_change_26 : decode cX6_change 26 = .ok (.iload 5, 2) := by decide +kernel
theorem dX6_change_28 : decode cX6_change 28 = .ok (.invokevirtual 96, 3) := by decide +kernel
theorem dX6_change_31 : decode cX6_change 31 = .ok (.ifCond .eq 56, 3) := by decide +kernel
theorem dX6_change_34 : decode cX6_change 34 = .ok (.iconst 2, 1) := by decide +kernel
theorem dX6_change_35 : decode cX6_change 35 = .ok (.bipush 40, 2) := by decide +kernel
theorem dX6_change_37 : decode cX6_change 37 = .ok (.iload_n 1, 1) := by decide +kernel
theorem dX6_change_38 : decode cX6_change 38 = .ok (.imul, 1) := by decide +kernel
theorem dX6_change_39 : decode cX6_change 39 = .ok (.iload 5, 2) := by decide +kernel
theorem dX6_change_41 : decode cX6_change 41 = .ok (.iadd, 1) := by decide +kernel
theorem dX6_change_42 : decode cX6_change 42 = .ok (.imul, 1) := by decide +kernel
theorem dX6_change_43 : decode cX6_change 43 = .ok (.iload_n 3, 1) := by decide +kernel
theorem dX6_change_44 : decode cX6_change 44 = .ok (.iadd, 1) := by decide +kernel
theorem dX6_change_45 : decode cX6_change 45 = .ok (.istore 6, 2) := by decide +kernel
theorem dX6_change_47 : decode cX6_change 47 = .ok (.aload_n 0, 1) := by decide +kernel
theorem dX6_change_48 : decode cX6_change 48 = .ok (.iload_n 1, 1) := by decide +kernel
theorem dX6_change_49 : decode cX6_change 49 = .ok (.iload 5, 2) := by decide +kernel
theorem dX6_change_51 : decode cX6_change 51 = .ok (.iload_n 3, 1) := by decide +kernel
theorem dX6_change_52 : decode cX6_change 52 = .ok (.iload 4, 2) := by decide +kernel
theorem dX6_change_54 : decode cX6_change 54 = .ok (.aload_n 0, 1) := by decide +kernel
theorem dX6_change_55 : decode cX6_change 55 = .ok (.getfield 32, 3) := by decide +kernel
theorem dX6_change_58 : decode cX6_change 58 = .ok (.iload 6, 2) := by decide +kernel
theorem dX6_change_60 : decode cX6_change 60 = .ok (.iaload, 1) := by decide +kernel
theorem dX6_change_61 : decode cX6_change 61 = .ok (.invokevirtual 143, 3) := by decide +kernel
theorem dX6_change_64 : decode cX6_change 64 = .ok (.aload_n 0, 1) := by decide +kernel
theorem dX6_change_65 : decode cX6_change 65 = .ok (.getfield 29, 3) := by decide +kernel
theorem dX6_change_68 : decode cX6_change 68 = .ok (.iload 6, 2) := by decide +kernel
theorem dX6_change_70 : decode cX6_change 70 = .ok (.iload 4, 2) := by decide +kernel
theorem dX6_change_72 : decode cX6_change 72 = .ok (.iastore, 1) := by decide +kernel
theorem dX6_change_73 : decode cX6_change 73 = .ok (.aload_n 0, 1) := by decide +kernel
theorem dX6_change_74 : decode cX6_change 74 = .ok (.getfield 32, 3) := by decide +kernel
theorem dX6_change_77 : decode cX6_change 77 = .ok (.iload 6, 2) := by decide +kernel
theorem dX6_change_79 : decode cX6_change 79 = .ok (.dup2, 1) := by decide +kernel
theorem dX6_change_80 : decode cX6_change 80 = .ok (.iaload, 1) := by decide +kernel
theorem dX6_change_81 : decode cX6_change 81 = .ok (.iconst 1, 1) := by decide +kernel
theorem dX6_change_82 : decode cX6_change 82 = .ok (.iadd, 1) := by decide +kernel
theorem dX6_change_83 : decode cX6_change 83 = .ok (.iastore, 1) := by decide +kernel
theorem dX6_change_84 : decode cX6_change 84 = .ok (.goto 53, 3) := by decide +kernel
theorem dX6_change_87 : decode cX6_change 87 = .ok (.iconst 2, 1) := by decide +kernel
theorem dX6_change_88 : decode cX6_change 88 = .ok (.aload_n 0, 1) := by decide +kernel
theorem dX6_change_89 : decode cX6_change 89 = .ok (.iload_n 1, 1) := by decide +kernel
theorem dX6_change_90 : decode cX6_change 90 = .ok (.iload 5, 2) := by decide +kernel
theorem dX6_change_92 : decode cX6_change 92 = .ok (.invokevirtual 117, 3) := by decide +kernel
theorem dX6_change_95 : decode cX6_change 95 = .ok (.imul, 1) := by decide +kernel
theorem dX6_change_96 : decode cX6_change 96 = .ok (.iload_n 3, 1) := by decide +kernel
theorem dX6_change_97 : decode cX6_change 97 = .ok (.iadd, 1) := by decide +kernel
theorem dX6_change_98 : decode cX6_change 98 = .ok (.istore 6, 2) := by decide +kernel
theorem dX6_change_100 : decode cX6_change 100 = .ok (.aload_n 0, 1) := by decide +kernel
theorem dX6_change_101 : decode cX6_change 101 = .ok (.iload_n 1, 1) := by decide +kernel
theorem dX6_change_102 : decode cX6_change 102 = .ok (.iload 5, 2) := by decide +kernel
theorem dX6_change_104 : decode cX6_change 104 = .ok (.iload_n 3, 1) := by decide +kernel
theorem dX6_change_105 : decode cX6_change 105 = .ok (.iload 4, 2) := by decide +kernel
theorem dX6_change_107 : decode cX6_change 107 = .ok (.aload_n 0, 1) := by decide +kernel
theorem dX6_change_108 : decode cX6_change 108 = .ok (.getfield 44, 3) := by decide +kernel
theorem dX6_change_111 : decode cX6_change 111 = .ok (.iload 6, 2) := by decide +kernel
theorem dX6_change_113 : decode cX6_change 113 = .ok (.iaload, 1) := by decide +kernel
theorem dX6_change_114 : decode cX6_change 114 = .ok (.invokevirtual 143, 3) := by decide +kernel
theorem dX6_change_117 : decode cX6_change 117 = .ok (.aload_n 0, 1) := by decide +kernel
theorem dX6_change_118 : decode cX6_change 118 = .ok (.getfield 41, 3) := by decide +kernel
theorem dX6_change_121 : decode cX6_change 121 = .ok (.iload 6, 2) := by decide +kernel
theorem dX6_change_123 : decode cX6_change 123 = .ok (.iload 4, 2) := by decide +kernel
theorem dX6_change_125 : decode cX6_change 125 = .ok (.iastore, 1) := by decide +kernel
theorem dX6_change_126 : decode cX6_change 126 = .ok (.aload_n 0, 1) := by decide +kernel
theorem dX6_change_127 : decode cX6_change 127 = .ok (.getfield 44, 3) := by decide +kernel
theorem dX6_change_130 : decode cX6_change 130 = .ok (.iload 6, 2) := by decide +kernel
theorem dX6_change_132 : decode cX6_change 132 = .ok (.dup2, 1) := by decide +kernel
theorem dX6_change_133 : decode cX6_change 133 = .ok (.iaload, 1) := by decide +kernel
theorem dX6_change_134 : decode cX6_change 134 = .ok (.iconst 1, 1) := by decide +kernel
theorem dX6_change_135 : decode cX6_change 135 = .ok (.iadd, 1) := by decide +kernel
theorem dX6_change_136 : decode cX6_change 136 = .ok (.iastore, 1) := by decide +kernel
theorem dX6_change_137 : decode cX6_change 137 = .ok (.aload_n 0, 1) := by decide +kernel
theorem dX6_change_138 : decode cX6_change 138 = .ok (.iload_n 1, 1) := by decide +kernel
theorem dX6_change_139 : decode cX6_change 139 = .ok (.invokevirtual 147, 3) := by decide +kernel
theorem dX6_change_142 : decode cX6_change 142 = .ok (.ireturn, 1) := by decide +kernel
theorem dX6_make_0 : decode cX6_make 0 = .ok (.aload_n 0, 1) := by decide +kernel
theorem dX6_make_1 : decode cX6_make 1 = .ok (.iload_n 1, 1) := by decide +kernel
theorem dX6_make_2 : decode cX6_make 2 = .ok (.invokestatic 86, 3) := by decide +kernel
theorem dX6_make_5 : decode cX6_make 5 = .ok (.ifCond .ne 7, 3) := by decide +kernel
theorem dX6_make_8 : decode cX6_make 8 = .ok (.iconst 1, 1) := by decide +kernel
theorem dX6_make_9 : decode cX6_make 9 = .ok (.goto 18, 3) := by decide +kernel
theorem dX6_make_12 : decode cX6_make 12 = .ok (.iload_n 2, 1) := by decide +kernel
theorem dX6_make_13 : decode cX6_make 13 = .ok (.iconst 0, 1) := by decide +kernel
theorem dX6_make_14 : decode cX6_make 14 = .ok (.bipush 9, 2) := by decide +kernel
theorem dX6_make_16 : decode cX6_make 16 = .ok (.invokestatic 75, 3) := by decide +kernel
theorem dX6_make_19 : decode cX6_make 19 = .ok (.ifCond .eq 7, 3) := by decide +kernel
theorem dX6_make_22 : decode cX6_make 22 = .ok (.iconst 0, 1) := by decide +kernel
theorem dX6_make_23 : decode cX6_make 23 = .ok (.goto 4, 3) := by decide +kernel
theorem dX6_make_26 : decode cX6_make 26 = .ok (.iconst 2, 1) := by decide +kernel
theorem dX6_make_27 : decode cX6_make 27 = .ok (.invokevirtual 89, 3) := by decide +kernel
theorem dX6_make_30 : decode cX6_make 30 = .ok (.ifCond .eq 5, 3) := by decide +kernel
theorem dX6_make_33 : decode cX6_make 33 = .ok (.iconst 0, 1) := by decide +kernel
theorem dX6_make_34 : decode cX6_make 34 = .ok (.ireturn, 1) := by decide +kernel
theorem dX6_make_35 : decode cX6_make 35 = .ok (.sipush 1000, 3) := by decide +kernel
theorem dX6_make_38 : decode cX6_make 38 = .ok (.aload_n 0, 1) := by decide +kernel
theorem dX6_make_39 : decode cX6_make 39 = .ok (.getfield 35, 3) := by decide +kernel
theorem dX6_make_42 : decode cX6_make 42 = .ok (.iload_n 1, 1) := by decide +kernel
theorem dX6_make_43 : decode cX6_make 43 = .ok (.iaload, 1) := by decide +kernel
theorem dX6_make_44 : decode cX6_make 44 = .ok (.iadd, 1) := by decide +kernel
theorem dX6_make_45 : decode cX6_make 45 = .ok (.istore_n 3, 1) := by decide +kernel
theorem dX6_make_46 : decode cX6_make 46 = .ok (.aload_n 0, 1) := by decide +kernel
theorem dX6_make_47 : decode cX6_make 47 = .ok (.getfield 38, 3) := by decide +kernel
theorem dX6_make_50 : decode cX6_make 50 = .ok (.sipush 600, 3) := by decide +kernel
theorem dX6_make_53 : decode cX6_make 53 = .ok (.iload_n 1, 1) := by decide +kernel
theorem dX6_make_54 : decode cX6_make 54 = .ok (.imul, 1) := by decide +kernel
theorem dX6_make_55 : decode cX6_make 55 = .ok (.aload_n 0, 1) := by decide +kernel
theorem dX6_make_56 : decode cX6_make 56 = .ok (.getfield 35, 3) := by decide +kernel
theorem dX6_make_59 : decode cX6_make 59 = .ok (.iload_n 1, 1) := by decide +kernel
theorem dX6_make_60 : decode cX6_make 60 = .ok (.iaload, 1) := by decide +kernel
theorem dX6_make_61 : decode cX6_make 61 = .ok (.iadd, 1) := by decide +kernel
theorem dX6_make_62 : decode cX6_make 62 = .ok (.iconst (-1), 1) := by decide +kernel
theorem dX6_make_63 : decode cX6_make 63 = .ok (.iastore, 1) := by decide +kernel
theorem dX6_make_64 : decode cX6_make 64 = .ok (.aload_n 0, 1) := by decide +kernel
theorem dX6_make_65 : decode cX6_make 65 = .ok (.getfield 35, 3) := by decide +kernel
theorem dX6_make_68 : decode cX6_make 68 = .ok (.iload_n 1, 1) := by decide +kernel
theorem dX6_make_69 : decode cX6_make 69 = .ok (.dup2, 1) := by decide +kernel
theorem dX6_make_70 : decode cX6_make 70 = .ok (.iaload, 1) := by decide +kernel
theorem dX6_make_71 : decode cX6_make 71 = .ok (.iconst 1, 1) := by decide +kernel
theorem dX6_make_72 : decode cX6_make 72 = .ok (.iadd, 1) := by decide +kernel
theorem dX6_make_73 : decode cX6_make 73 = .ok (.iastore, 1) := by decide +kernel
theorem dX6_make_74 : decode cX6_make 74 = .ok (.aload_n 0, 1) := by decide +kernel
theorem dX6_make_75 : decode cX6_make 75 = .ok (.iload_n 1, 1) := by decide +kernel
theorem dX6_make_76 : decode cX6_make 76 = .ok (.iload_n 3, 1) := by decide +kernel
theorem dX6_make_77 : decode cX6_make 77 = .ok (.iconst (-1), 1) := by decide +kernel
theorem dX6_make_78 : decode cX6_make 78 = .ok (.iload_n 2, 1) := by decide +kernel
theorem dX6_make_79 : decode cX6_make 79 = .ok (.iconst 0, 1) := by decide +kernel
theorem dX6_make_80 : decode cX6_make 80 = .ok (.invokevirtual 143, 3) := by decide +kernel
theorem dX6_make_83 : decode cX6_make 83 = .ok (.iload_n 3, 1) := by decide +kernel
theorem dX6_make_84 : decode cX6_make 84 = .ok (.ireturn, 1) := by decide +kernel
theorem dX6_numberOf_0 : decode cX6_numberOf 0 = .ok (.aload_n 0, 1) := by decide +kernel
theorem dX6_numberOf_1 : decode cX6_numberOf 1 = .ok (.iload_n 1, 1) := by decide +kernel
theorem dX6_numberOf_2 : decode cX6_numberOf 2 = .ok (.invokestatic 86, 3) := by decide +kernel
theorem dX6_numberOf_5 : decode cX6_numberOf 5 = .ok (.ifCond .ne 7, 3) := by decide +kernel
theorem dX6_numberOf_8 : decode cX6_numberOf 8 = .ok (.iconst 1, 1) := by decide +kernel
theorem dX6_numberOf_9 : decode cX6_numberOf 9 = .ok (.goto 18, 3) := by decide +kernel
theorem dX6_numberOf_12 : decode cX6_numberOf 12 = .ok (.aload_n 0, 1) := by decide +kernel
theorem dX6_numberOf_13 : decode cX6_numberOf 13 = .ok (.iload_n 1, 1) := by decide +kernel
theorem dX6_numberOf_14 : decode cX6_numberOf 14 = .ok (.iload_n 2, 1) := by decide +kernel
theorem dX6_numberOf_15 : decode cX6_numberOf 15 = .ok (.invokevirtual 117, 3) := by decide +kernel
theorem dX6_numberOf_18 : decode cX6_numberOf 18 = .ok (.iconst (-1), 1) := by decide +kernel
theorem dX6_numberOf_19 : decode cX6_numberOf 19 = .ok (.if_icmp .ne 7, 3) := by decide +kernel
theorem dX6_numberOf_22 : decode cX6_numberOf 22 = .ok (.iconst 2, 1) := by decide +kernel
theorem dX6_numberOf_23 : decode cX6_numberOf 23 = .ok (.goto 4, 3) := by decide +kernel
theorem dX6_numberOf_26 : decode cX6_numberOf 26 = .ok (.iconst 0, 1) := by decide +kernel
theorem dX6_numberOf_27 : decode cX6_numberOf 27 = .ok (.invokevirtual 89, 3) := by decide +kernel
theorem dX6_numberOf_30 : decode cX6_numberOf 30 = .ok (.ifCond .eq 5, 3) := by decide +kernel
theorem dX6_numberOf_33 : decode cX6_numberOf 33 = .ok (.iconst 0, 1) := by decide +kernel
theorem dX6_numberOf_34 : decode cX6_numberOf 34 = .ok (.ireturn, 1) := by decide +kernel
theorem dX6_numberOf_35 : decode cX6_numberOf 35 = .ok (.aload_n 0, 1) := by decide +kernel
theorem dX6_numberOf_36 : decode cX6_numberOf 36 = .ok (.getfield 38, 3) := by decide +kernel
theorem dX6_numberOf_39 : decode cX6_numberOf 39 = .ok (.aload_n 0, 1) := by decide +kernel
theorem dX6_numberOf_40 : decode cX6_numberOf 40 = .ok (.iload_n 1, 1) := by decide +kernel
theorem dX6_numberOf_41 : decode cX6_numberOf 41 = .ok (.iload_n 2, 1) := by decide +kernel
theorem dX6_numberOf_42 : decode cX6_numberOf 42 = .ok (.invokevirtual 117, 3) := by decide +kernel
theorem dX6_numberOf_45 : decode cX6_numberOf 45 = .ok (.iaload, 1) := by decide +kernel
theorem dX6_numberOf_46 : decode cX6_numberOf 46 = .ok (.ireturn, 1) := by decide +kernel
theorem dX6_against_0 : decode cX6_against 0 = .ok (.aload_n 0, 1) := by decide +kernel
theorem dX6_against_1 : decode cX6_against 1 = .ok (.getfield 47, 3) := by decide +kernel
theorem dX6_against_4 : decode cX6_against 4 = .ok (.iload_n 1, 1) := by decide +kernel
theorem dX6_against_5 : decode cX6_against 5 = .ok (.iaload, 1) := by decide +kernel
theorem dX6_against_6 : decode cX6_against 6 = .ok (.istore_n 2, 1) := by decide +kernel
theorem dX6_against_7 : decode cX6_against 7 = .ok (.aload_n 0, 1) := by decide +kernel
theorem dX6_against_8 : decode cX6_against 8 = .ok (.iload_n 2, 1) := by decide +kernel
theorem dX6_against_9 : decode cX6_against 9 = .ok (.aload_n 0, 1) := by decide +kernel
theorem dX6_against_10 : decode cX6_against 10 = .ok (.getfield 50, 3) := by decide +kernel
theorem dX6_against_13 : decode cX6_against 13 = .ok (.iload_n 1, 1) := by decide +kernel
theorem dX6_against_14 : decode cX6_against 14 = .ok (.iaload, 1) := by decide +kernel
theorem dX6_against_15 : decode cX6_against 15 = .ok (.invokevirtual 120, 3) := by decide +kernel
theorem dX6_against_18 : decode cX6_against 18 = .ok (.istore_n 3, 1) := by decide +kernel
theorem dX6_against_19 : decode cX6_against 19 = .ok (.aload_n 0, 1) := by decide +kernel
theorem dX6_against_20 : decode cX6_against 20 = .ok (.iload_n 3, 1) := by decide +kernel
theorem dX6_against_21 : decode cX6_against 21 = .ok (.invokevirtual 96, 3) := by decide +kernel
theorem dX6_against_24 : decode cX6_against 24 = .ok (.ifCond .ne 5, 3) := by decide +kernel
theorem dX6_against_27 : decode cX6_against 27 = .ok (.iconst 3, 1) := by decide +kernel
theorem dX6_against_28 : decode cX6_against 28 = .ok (.ireturn, 1) := by decide +kernel
theorem dX6_against_29 : decode cX6_against 29 = .ok (.iconst 2, 1) := by decide +kernel
theorem dX6_against_30 : decode cX6_against 30 = .ok (.iload_n 3, 1) := by decide +kernel
theorem dX6_against_31 : decode cX6_against 31 = .ok (.imul, 1) := by decide +kernel
theorem dX6_against_32 : decode cX6_against 32 = .ok (.aload_n 0, 1) := by decide +kernel
theorem dX6_against_33 : decode cX6_against 33 = .ok (.getfield 53, 3) := by decide +kernel
theorem dX6_against_36 : decode cX6_against 36 = .ok (.iload_n 1, 1) := by decide +kernel
theorem dX6_against_37 : decode cX6_against 37 = .ok (.iaload, 1) := by decide +kernel
theorem dX6_against_38 : decode cX6_against 38 = .ok (.iadd, 1) := by decide +kernel
theorem dX6_against_39 : decode cX6_against 39 = .ok (.istore 4, 2) := by decide +kernel
theorem dX6_against_41 : decode cX6_against 41 = .ok (.aload_n 0, 1) := by decide +kernel
theorem dX6_against_42 : decode cX6_against 42 = .ok (.getfield 7, 3) := by decide +kernel
theorem dX6_against_45 : decode cX6_against 45 = .ok (.iload_n 3, 1) := by decide +kernel
theorem dX6_against_46 : decode cX6_against 46 = .ok (.iaload, 1) := by decide +kernel
theorem dX6_against_47 : decode cX6_against 47 = .ok (.iload_n 2, 1) := by decide +kernel
theorem dX6_against_48 : decode cX6_against 48 = .ok (.if_icmp .eq 5, 3) := by decide +kernel
theorem dX6_against_51 : decode cX6_against 51 = .ok (.iconst 0, 1) := by decide +kernel
theorem dX6_against_52 : decode cX6_against 52 = .ok (.ireturn, 1) := by decide +kernel
theorem dX6_against_53 : decode cX6_against 53 = .ok (.aload_n 0, 1) := by decide +kernel
theorem dX6_against_54 : decode cX6_against 54 = .ok (.getfield 19, 3) := by decide +kernel
theorem dX6_against_57 : decode cX6_against 57 = .ok (.iload 4, 2) := by decide +kernel
theorem dX6_against_59 : decode cX6_against 59 = .ok (.iaload, 1) := by decide +kernel
theorem dX6_against_60 : decode cX6_against 60 = .ok (.aload_n 0, 1) := by decide +kernel
theorem dX6_against_61 : decode cX6_against 61 = .ok (.getfield 59, 3) := by decide +kernel
theorem dX6_against_64 : decode cX6_against 64 = .ok (.iload_n 1, 1) := by decide +kernel
theorem dX6_against_65 : decode cX6_against 65 = .ok (.iaload, 1) := by decide +kernel
theorem dX6_against_66 : decode cX6_against 66 = .ok (.if_icmp .eq 5, 3) := by decide +kernel
theorem dX6_against_69 : decode cX6_against 69 = .ok (.iconst 1, 1) := by decide +kernel
theorem dX6_against_70 : decode cX6_against 70 = .ok (.ireturn, 1) := by decide +kernel
theorem dX6_against_71 : decode cX6_against 71 = .ok (.aload_n 0, 1) := by decide +kernel
theorem dX6_against_72 : decode cX6_against 72 = .ok (.getfield 53, 3) := by decide +kernel
theorem dX6_against_75 : decode cX6_against 75 = .ok (.iload_n 1, 1) := by decide +kernel
theorem dX6_against_76 : decode cX6_against 76 = .ok (.iaload, 1) := by decide +kernel
theorem dX6_against_77 : decode cX6_against 77 = .ok (.iconst 1, 1) := by decide +kernel
theorem dX6_against_78 : decode cX6_against 78 = .ok (.if_icmp .eq 21, 3) := by decide +kernel
theorem dX6_against_81 : decode cX6_against 81 = .ok (.aload_n 0, 1) := by decide +kernel
theorem dX6_against_82 : decode cX6_against 82 = .ok (.getfield 16, 3) := by decide +kernel
theorem dX6_against_85 : decode cX6_against 85 = .ok (.iload 4, 2) := by decide +kernel
theorem dX6_against_87 : decode cX6_against 87 = .ok (.iaload, 1) := by decide +kernel
theorem dX6_against_88 : decode cX6_against 88 = .ok (.iconst 1, 1) := by decide +kernel
theorem dX6_against_89 : decode cX6_against 89 = .ok (.iadd, 1) := by decide +kernel
theorem dX6_against_90 : decode cX6_against 90 = .ok (.aload_n 0, 1) := by decide +kernel
theorem dX6_against_91 : decode cX6_against 91 = .ok (.getfield 56, 3) := by decide +kernel
theorem dX6_against_94 : decode cX6_against 94 = .ok (.iload_n 1, 1) := by decide +kernel
theorem dX6_against_95 : decode cX6_against 95 = .ok (.iaload, 1) := by decide +kernel
theorem dX6_against_96 : decode cX6_against 96 = .ok (.if_icmp .ne 7, 3) := by decide +kernel
theorem dX6_against_99 : decode cX6_against 99 = .ok (.iconst 1, 1) := by decide +kernel
theorem dX6_against_100 : decode cX6_against 100 = .ok (.goto 4, 3) := by decide +kernel
theorem dX6_against_103 : decode cX6_against 103 = .ok (.iconst 0, 1) := by decide +kernel
theorem dX6_against_104 : decode cX6_against 104 = .ok (.istore 5, 2) := by decide +kernel
theorem dX6_against_106 : decode cX6_against 106 = .ok (.iload 5, 2) := by decide +kernel
theorem dX6_against_108 : decode cX6_against 108 = .ok (.ifCond .eq 7, 3) := by decide +kernel
theorem dX6_against_111 : decode cX6_against 111 = .ok (.iconst (-1), 1) := by decide +kernel
theorem dX6_against_112 : decode cX6_against 112 = .ok (.goto 4, 3) := by decide +kernel
theorem dX6_against_115 : decode cX6_against 115 = .ok (.iconst 2, 1) := by decide +kernel
theorem dX6_against_116 : decode cX6_against 116 = .ok (.ireturn, 1) := by decide +kernel
theorem dX6_adopt_0 : decode cX6_adopt 0 = .ok (.aload_n 0, 1) := by decide +kernel
theorem dX6_adopt_1 : decode cX6_adopt 1 = .ok (.getfield 47, 3) := by decide +kernel
theorem dX6_adopt_4 : decode cX6_adopt 4 = .ok (.iload_n 1, 1) := by decide +kernel
theorem dX6_adopt_5 : decode cX6_adopt 5 = .ok (.iaload, 1) := by decide +kernel
theorem dX6_adopt_6 : decode cX6_adopt 6 = .ok (.istore_n 2, 1) := by decide +kernel
theorem dX6_adopt_7 : decode cX6_adopt 7 = .ok (.aload_n 0, 1) := by decide +kernel
theorem dX6_adopt_8 : decode cX6_adopt 8 = .ok (.iload_n 2, 1) := by decide +kernel
theorem dX6_adopt_9 : decode cX6_adopt 9 = .ok (.aload_n 0, 1) := by decide +kernel
theorem dX6_adopt_10 : decode cX6_adopt 10 = .ok (.getfield 50, 3) := by decide +kernel
theorem dX6_adopt_13 : decode cX6_adopt 13 = .ok (.iload_n 1, 1) := by decide +kernel
theorem dX6_adopt_14 : decode cX6_adopt 14 = .ok (.iaload, 1) := by decide +kernel
theorem dX6_adopt_15 : decode cX6_adopt 15 = .ok (.invokevirtual 117, 3) := by decide +kernel
theorem dX6_adopt_18 : decode cX6_adopt 18 = .ok (.istore_n 3, 1) := by decide +kernel
theorem dX6_adopt_19 : decode cX6_adopt 19 = .ok (.aload_n 0, 1) := by decide +kernel
theorem dX6_adopt_20 : decode cX6_adopt 20 = .ok (.iload_n 2, 1) := by decide +kernel
theorem dX6_adopt_21 : decode cX6_adopt 21 = .ok (.aload_n 0, 1) := by decide +kernel
theorem dX6_adopt_22 : decode cX6_adopt 22 = .ok (.getfield 56, 3) := by decide +kernel
theorem dX6_adopt_25 : decode cX6_adopt 25 = .ok (.iload_n 1, 1) := by decide +kernel
theorem dX6_adopt_26 : decode cX6_adopt 26 = .ok (.iaload, 1) := by decide +kernel
theorem dX6_adopt_27 : decode cX6_adopt 27 = .ok (.invokevirtual 92, 3) := by decide +kernel
theorem dX6_adopt_30 : decode cX6_adopt 30 = .ok (.istore 4, 2) := by decide +kernel
theorem dX6_adopt_32 : decode cX6_adopt 32 = .ok (.bipush 40, 2) := by decide +kernel
theorem dX6_adopt_34 : decode cX6_adopt 34 = .ok (.iload_n 2, 1) := by decide +kernel
theorem dX6_adopt_35 : decode cX6_adopt 35 = .ok (.imul, 1) := by decide +kernel
theorem dX6_adopt_36 : decode cX6_adopt 36 = .ok (.iload 4, 2) := by decide +kernel
theorem dX6_adopt_38 : decode cX6_adopt 38 = .ok (.iadd, 1) := by decide +kernel
theorem dX6_adopt_39 : decode cX6_adopt 39 = .ok (.istore 5, 2) := by decide +kernel
theorem dX6_adopt_41 : decode cX6_adopt 41 = .ok (.aload_n 0, 1) := by decide +kernel
theorem dX6_adopt_42 : decode cX6_adopt 42 = .ok (.getfield 38, 3) := by decide +kernel
theorem dX6_adopt_45 : decode cX6_adopt 45 = .ok (.iload_n 3, 1) := by decide +kernel
theorem dX6_adopt_46 : decode cX6_adopt 46 = .ok (.iload 4, 2) := by decide +kernel
theorem dX6_adopt_48 : decode cX6_adopt 48 = .ok (.iastore, 1) := by decide +kernel
theorem dX6_adopt_49 : decode cX6_adopt 49 = .ok (.aload_n 0, 1) := by decide +kernel
theorem dX6_adopt_50 : decode cX6_adopt 50 = .ok (.getfield 25, 3) := by decide +kernel
theorem dX6_adopt_53 : decode cX6_adopt 53 = .ok (.iload 5, 2) := by decide +kernel
theorem dX6_adopt_55 : decode cX6_adopt 55 = .ok (.iconst 1, 1) := by decide +kernel
theorem dX6_adopt_56 : decode cX6_adopt 56 = .ok (.bastore, 1) := by decide +kernel
theorem dX6_adopt_57 : decode cX6_adopt 57 = .ok (.iconst 0, 1) := by decide +kernel
theorem dX6_adopt_58 : decode cX6_adopt 58 = .ok (.istore 6, 2) := by decide +kernel
theorem dX6_adopt_60 : decode cX6_adopt 60 = .ok (.iload 6, 2) := by decide +kernel
theorem dX6_adopt_62 : decode cX6_adopt 62 = .ok (.iconst 2, 1) := by decide +kernel
theorem dX6_adopt_63 : decode cX6_adopt 63 = .ok (.if_icmp .ge 55, 3) := by decide +kernel
theorem dX6_adopt_66 : decode cX6_adopt 66 = .ok (.aload_n 0, 1) := by decide +kernel
theorem dX6_adopt_67 : decode cX6_adopt 67 = .ok (.getfield 29, 3) := by decide +kernel
theorem dX6_adopt_70 : decode cX6_adopt 70 = .ok (.iconst 2, 1) := by decide +kernel
theorem dX6_adopt_71 : decode cX6_adopt 71 = .ok (.iload 5, 2) := by decide +kernel
theorem dX6_adopt_73 : decode cX6_adopt 73 = .ok (.imul, 1) := by decide +kernel
theorem dX6_adopt_74 : decode cX6_adopt 74 = .ok (.iload 6, 2) := by decide +kernel
theorem dX6_adopt_76 : decode cX6_adopt 76 = .ok (.iadd, 1) := by decide +kernel
theorem dX6_adopt_77 : decode cX6_adopt 77 = .ok (.aload_n 0, 1) := by decide +kernel
theorem dX6_adopt_78 : decode cX6_adopt 78 = .ok (.getfield 41, 3) := by decide +kernel
theorem dX6_adopt_81 : decode cX6_adopt 81 = .ok (.iconst 2, 1) := by decide +kernel
theorem dX6_adopt_82 : decode cX6_adopt 82 = .ok (.iload_n 3, 1) := by decide +kernel
theorem dX6_adopt_83 : decode cX6_adopt 83 = .ok (.imul, 1) := by decide +kernel
theorem dX6_adopt_84 : decode cX6_adopt 84 = .ok (.iload 6, 2) := by decide +kernel
theorem dX6_adopt_86 : decode cX6_adopt 86 = .ok (.iadd, 1) := by decide +kernel
theorem dX6_adopt_87 : decode cX6_adopt 87 = .ok (.iaload, 1) := by decide +kernel
theorem dX6_adopt_88 : decode cX6_adopt 88 = .ok (.iastore, 1) := by decide +kernel
theorem dX6_adopt_89 : decode cX6_adopt 89 = .ok (.aload_n 0, 1) := by decide +kernel
theorem dX6_adopt_90 : decode cX6_adopt 90 = .ok (.getfield 32, 3) := by decide +kernel
theorem dX6_adopt_93 : decode cX6_adopt 93 = .ok (.iconst 2, 1) := by decide +kernel
theorem dX6_adopt_94 : decode cX6_adopt 94 = .ok (.iload 5, 2) := by decide +kernel
theorem dX6_adopt_96 : decode cX6_adopt 96 = .ok (.imul, 1) := by decide +kernel
theorem dX6_adopt_97 : decode cX6_adopt 97 = .ok (.iload 6, 2) := by decide +kernel
theorem dX6_adopt_99 : decode cX6_adopt 99 = .ok (.iadd, 1) := by decide +kernel
theorem dX6_adopt_100 : decode cX6_adopt 100 = .ok (.aload_n 0, 1) := by decide +kernel
theorem dX6_adopt_101 : decode cX6_adopt 101 = .ok (.getfield 44, 3) := by decide +kernel
theorem dX6_adopt_104 : decode cX6_adopt 104 = .ok (.iconst 2, 1) := by decide +kernel
theorem dX6_adopt_105 : decode cX6_adopt 105 = .ok (.iload_n 3, 1) := by decide +kernel
theorem dX6_adopt_106 : decode cX6_adopt 106 = .ok (.imul, 1) := by decide +kernel
theorem dX6_adopt_107 : decode cX6_adopt 107 = .ok (.iload 6, 2) := by decide +kernel
theorem dX6_adopt_109 : decode cX6_adopt 109 = .ok (.iadd, 1) := by decide +kernel
theorem dX6_adopt_110 : decode cX6_adopt 110 = .ok (.iaload, 1) := by decide +kernel
theorem dX6_adopt_111 : decode cX6_adopt 111 = .ok (.iastore, 1) := by decide +kernel
theorem dX6_adopt_112 : decode cX6_adopt 112 = .ok (.iinc 6 1, 3) := by decide +kernel
theorem dX6_adopt_115 : decode cX6_adopt 115 = .ok (.goto (-55), 3) := by decide +kernel
theorem dX6_adopt_118 : decode cX6_adopt 118 = .ok (.return_, 1) := by decide +kernel
theorem dX6_post_0 : decode cX6_post 0 = .ok (.aload_n 0, 1) := by decide +kernel
theorem dX6_post_1 : decode cX6_post 1 = .ok (.getfield 53, 3) := by decide +kernel
theorem dX6_post_4 : decode cX6_post 4 = .ok (.iload_n 1, 1) := by decide +kernel
theorem dX6_post_5 : decode cX6_post 5 = .ok (.iaload, 1) := by decide +kernel
theorem dX6_post_6 : decode cX6_post 6 = .ok (.iconst (-1), 1) := by decide +kernel
theorem dX6_post_7 : decode cX6_post 7 = .ok (.if_icmp .ne 7, 3) := by decide +kernel
theorem dX6_post_10 : decode cX6_post 10 = .ok (.iconst 1, 1) := by decide +kernel
theorem dX6_post_11 : decode cX6_post 11 = .ok (.goto 4, 3) := by decide +kernel
theorem dX6_post_14 : decode cX6_post 14 = .ok (.iconst 0, 1) := by decide +kernel
theorem dX6_post_15 : decode cX6_post 15 = .ok (.istore_n 2, 1) := by decide +kernel
theorem dX6_post_16 : decode cX6_post 16 = .ok (.iload_n 2, 1) := by decide +kernel
theorem dX6_post_17 : decode cX6_post 17 = .ok (.ifCond .eq 20, 3) := by decide +kernel
theorem dX6_post_20 : decode cX6_post 20 = .ok (.aload_n 0, 1) := by decide +kernel
theorem dX6_post_21 : decode cX6_post 21 = .ok (.getfield 79, 3) := by decide +kernel
theorem dX6_post_24 : decode cX6_post 24 = .ok (.bipush 40, 2) := by decide +kernel
theorem dX6_post_26 : decode cX6_post 26 = .ok (.if_icmp .ne 7, 3) := by decide +kernel
theorem dX6_post_29 : decode cX6_post 29 = .ok (.iconst 3, 1) := by decide +kernel
theorem dX6_post_30 : decode cX6_post 30 = .ok (.goto 12, 3) := by decide +kernel
theorem dX6_post_33 : decode cX6_post 33 = .ok (.iconst (-1), 1) := by decide +kernel
theorem dX6_post_34 : decode cX6_post 34 = .ok (.goto 8, 3) := by decide +kernel
theorem dX6_post_37 : decode cX6_post 37 = .ok (.aload_n 0, 1) := by decide +kernel
theorem dX6_post_38 : decode cX6_post 38 = .ok (.iload_n 1, 1) := by decide +kernel
theorem dX6_post_39 : decode cX6_post 39 = .ok (.invokevirtual 150, 3) := by decide +kernel
theorem dX6_post_42 : decode cX6_post 42 = .ok (.istore_n 3, 1) := by decide +kernel
theorem dX6_post_43 : decode cX6_post 43 = .ok (.aload_n 0, 1) := by decide +kernel
theorem dX6_post_44 : decode cX6_post 44 = .ok (.getfield 62, 3) := by decide +kernel
theorem dX6_post_47 : decode cX6_post 47 = .ok (.iload_n 1, 1) := by decide +kernel
theorem dX6_post_48 : decode cX6_post 48 = .ok (.iconst 1, 1) := by decide +kernel
theorem dX6_post_49 : decode cX6_post 49 = .ok (.iastore, 1) := by decide +kernel
theorem dX6_post_50 : decode cX6_post 50 = .ok (.iload_n 3, 1) := by decide +kernel
theorem dX6_post_51 : decode cX6_post 51 = .ok (.iconst (-1), 1) := by decide +kernel
theorem dX6_post_52 : decode cX6_post 52 = .ok (.if_icmp .eq 36, 3) := by decide +kernel
theorem dX6_post_55 : decode cX6_post 55 = .ok (.aload_n 0, 1) := by decide +kernel
theorem dX6_post_56 : decode cX6_post 56 = .ok (.getfield 65, 3) := by decide +kernel
theorem dX6_post_59 : decode cX6_post 59 = .ok (.aload_n 0, 1) := by decide +kernel
theorem dX6_post_60 : decode cX6_post 60 = .ok (.getfield 153, 3) := by decide +kernel
theorem dX6_post_63 : decode cX6_post 63 = .ok (.iload_n 1, 1) := by decide +kernel
theorem dX6_post_64 : decode cX6_post 64 = .ok (.iastore, 1) := by decide +kernel
theorem dX6_post_65 : decode cX6_post 65 = .ok (.aload_n 0, 1) := by decide +kernel
theorem dX6_post_66 : decode cX6_post 66 = .ok (.getfield 68, 3) := by decide +kernel
theorem dX6_post_69 : decode cX6_post 69 = .ok (.aload_n 0, 1) := by decide +kernel
theorem dX6_post_70 : decode cX6_post 70 = .ok (.getfield 153, 3) := by decide +kernel
theorem dX6_post_73 : decode cX6_post 73 = .ok (.iload_n 3, 1) := by decide +kernel
theorem dX6_post_74 : decode cX6_post 74 = .ok (.iastore, 1) := by decide +kernel
theorem dX6_post_75 : decode cX6_post 75 = .ok (.aload_n 0, 1) := by decide +kernel
theorem dX6_post_76 : decode cX6_post 76 = .ok (.dup, 1) := by decide +kernel
theorem dX6_post_77 : decode cX6_post 77 = .ok (.getfield 153, 3) := by decide +kernel
theorem dX6_post_80 : decode cX6_post 80 = .ok (.iconst 1, 1) := by decide +kernel
theorem dX6_post_81 : decode cX6_post 81 = .ok (.iadd, 1) := by decide +kernel
theorem dX6_post_82 : decode cX6_post 82 = .ok (.putfield 153, 3) := by decide +kernel
theorem dX6_post_85 : decode cX6_post 85 = .ok (.goto 48, 3) := by decide +kernel
theorem dX6_post_88 : decode cX6_post 88 = .ok (.iload_n 2, 1) := by decide +kernel
theorem dX6_post_89 : decode cX6_post 89 = .ok (.ifCond .eq 11, 3) := by decide +kernel
theorem dX6_post_92 : decode cX6_post 92 = .ok (.aload_n 0, 1) := by decide +kernel
theorem dX6_post_93 : decode cX6_post 93 = .ok (.iload_n 1, 1) := by decide +kernel
theorem dX6_post_94 : decode cX6_post 94 = .ok (.invokevirtual 156, 3) := by decide +kernel
theorem dX6_post_97 : decode cX6_post 97 = .ok (.goto 36, 3) := by decide +kernel
theorem dX6_post_100 : decode cX6_post 100 = .ok (.aload_n 0, 1) := by decide +kernel
theorem dX6_post_101 : decode cX6_post 101 = .ok (.aload_n 0, 1) := by decide +kernel
theorem dX6_post_102 : decode cX6_post 102 = .ok (.aload_n 0, 1) := by decide +kernel
theorem dX6_post_103 : decode cX6_post 103 = .ok (.getfield 47, 3) := by decide +kernel
theorem dX6_post_106 : decode cX6_post 106 = .ok (.iload_n 1, 1) := by decide +kernel
theorem dX6_post_107 : decode cX6_post 107 = .ok (.iaload, 1) := by decide +kernel
theorem dX6_post_108 : decode cX6_post 108 = .ok (.aload_n 0, 1) := by decide +kernel
theorem dX6_post_109 : decode cX6_post 109 = .ok (.getfield 50, 3) := by decide +kernel
theorem dX6_post_112 : decode cX6_post 112 = .ok (.iload_n 1, 1) := by decide +kernel
theorem dX6_post_113 : decode cX6_post 113 = .ok (.iaload, 1) := by decide +kernel
theorem dX6_post_114 : decode cX6_post 114 = .ok (.invokevirtual 120, 3) := by decide +kernel
theorem dX6_post_117 : decode cX6_post 117 = .ok (.aload_n 0, 1) := by decide +kernel
theorem dX6_post_118 : decode cX6_post 118 = .ok (.getfield 53, 3) := by decide +kernel
theorem dX6_post_121 : decode cX6_post 121 = .ok (.iload_n 1, 1) := by decide +kernel
theorem dX6_post_122 : decode cX6_post 122 = .ok (.iaload, 1) := by decide +kernel
theorem dX6_post_123 : decode cX6_post 123 = .ok (.aload_n 0, 1) := by decide +kernel
theorem dX6_post_124 : decode cX6_post 124 = .ok (.getfield 56, 3) := by decide +kernel
theorem dX6_post_127 : decode cX6_post 127 = .ok (.iload_n 1, 1) := by decide +kernel
theorem dX6_post_128 : decode cX6_post 128 = .ok (.iaload, 1) := by decide +kernel
theorem dX6_post_129 : decode cX6_post 129 = .ok (.invokevirtual 103, 3) := by decide +kernel
theorem dX6_post_132 : decode cX6_post 132 = .ok (.pop, 1) := by decide +kernel
theorem dX6_post_133 : decode cX6_post 133 = .ok (.iload_n 3, 1) := by decide +kernel
theorem dX6_post_134 : decode cX6_post 134 = .ok (.iconst (-1), 1) := by decide +kernel
theorem dX6_post_135 : decode cX6_post 135 = .ok (.if_icmp .ne 7, 3) := by decide +kernel
theorem dX6_post_138 : decode cX6_post 138 = .ok (.iconst 1, 1) := by decide +kernel
theorem dX6_post_139 : decode cX6_post 139 = .ok (.goto 4, 3) := by decide +kernel
theorem dX6_post_142 : decode cX6_post 142 = .ok (.iconst 0, 1) := by decide +kernel
theorem dX6_post_143 : decode cX6_post 143 = .ok (.ireturn, 1) := by decide +kernel
theorem dX6_send_0 : decode cX6_send 0 = .ok (.aload_n 0, 1) := by decide +kernel
theorem dX6_send_1 : decode cX6_send 1 = .ok (.iload_n 1, 1) := by decide +kernel
theorem dX6_send_2 : decode cX6_send 2 = .ok (.invokestatic 86, 3) := by decide +kernel
theorem dX6_send_5 : decode cX6_send 5 = .ok (.ifCond .ne 7, 3) := by decide +kernel
theorem dX6_send_8 : decode cX6_send 8 = .ok (.iconst 1, 1) := by decide +kernel
theorem dX6_send_9 : decode cX6_send 9 = .ok (.goto 18, 3) := by decide +kernel
theorem dX6_send_12 : decode cX6_send 12 = .ok (.iload_n 2, 1) := by decide +kernel
theorem dX6_send_13 : decode cX6_send 13 = .ok (.iconst 1, 1) := by decide +kernel
theorem dX6_send_14 : decode cX6_send 14 = .ok (.bipush 100, 2) := by decide +kernel
theorem dX6_send_16 : decode cX6_send 16 = .ok (.invokestatic 75, 3) := by decide +kernel
theorem dX6_send_19 : decode cX6_send 19 = .ok (.ifCond .eq 7, 3) := by decide +kernel
theorem dX6_send_22 : decode cX6_send 22 = .ok (.iconst 0, 1) := by decide +kernel
theorem dX6_send_23 : decode cX6_send 23 = .ok (.goto 4, 3) := by decide +kernel
theorem dX6_send_26 : decode cX6_send 26 = .ok (.iconst 2, 1) := by decide +kernel
theorem dX6_send_27 : decode cX6_send 27 = .ok (.invokevirtual 89, 3) := by decide +kernel
theorem dX6_send_30 : decode cX6_send 30 = .ok (.ifCond .eq 5, 3) := by decide +kernel
theorem dX6_send_33 : decode cX6_send 33 = .ok (.iconst 0, 1) := by decide +kernel
theorem dX6_send_34 : decode cX6_send 34 = .ok (.ireturn, 1) := by decide +kernel
theorem dX6_send_35 : decode cX6_send 35 = .ok (.iconst 0, 1) := by decide +kernel
theorem dX6_send_36 : decode cX6_send 36 = .ok (.istore_n 3, 1) := by decide +kernel
theorem dX6_send_37 : decode cX6_send 37 = .ok (.iload_n 2, 1) := by decide +kernel
theorem dX6_send_38 : decode cX6_send 38 = .ok (.istore 4, 2) := by decide +kernel
theorem dX6_send_40 : decode cX6_send 40 = .ok (.iconst 0, 1) := by decide +kernel
theorem dX6_send_41 : decode cX6_send 41 = .ok (.istore 5, 2) := by decide +kernel
theorem dX6_send_43 : decode cX6_send 43 = .ok (.iload 5, 2) := by decide +kernel
theorem dX6_send_45 : decode cX6_send 45 = .ok (.aload_n 0, 1) := by decide +kernel
theorem dX6_send_46 : decode cX6_send 46 = .ok (.getfield 140, 3) := by decide +kernel
theorem dX6_send_49 : decode cX6_send 49 = .ok (.if_icmp .ge 55, 3) := by decide +kernel
theorem dX6_send_52 : decode cX6_send 52 = .ok (.iload 4, 2) := by decide +kernel
theorem dX6_send_54 : decode cX6_send 54 = .ok (.ifCond .le 50, 3) := by decide +kernel
theorem dX6_send_57 : decode cX6_send 57 = .ok (.aload_n 0, 1) := by decide +kernel
theorem dX6_send_58 : decode cX6_send 58 = .ok (.getfield 47, 3) := by decide +kernel
theorem dX6_send_61 : decode cX6_send 61 = .ok (.iload 5, 2) := by decide +kernel
theorem dX6_send_63 : decode cX6_send 63 = .ok (.iaload, 1) := by decide +kernel
theorem dX6_send_64 : decode cX6_send 64 = .ok (.iload_n 1, 1) := by decide +kernel
theorem dX6_send_65 : decode cX6_send 65 = .ok (.if_icmp .ne 33, 3) := by decide +kernel
theorem dX6_send_68 : decode cX6_send 68 = .ok (.aload_n 0, 1) := by decide +kernel
theorem dX6_send_69 : decode cX6_send 69 = .ok (.getfield 62, 3) := by decide +kernel
theorem dX6_send_72 : decode cX6_send 72 = .ok (.iload 5, 2) := by decide +kernel
theorem dX6_send_74 : decode cX6_send 74 = .ok (.iaload, 1) := by decide +kernel
theorem dX6_send_75 : decode cX6_send 75 = .ok (.ifCond .ne 23, 3) := by decide +kernel
theorem dX6_send_78 : decode cX6_send 78 = .ok (.iload_n 3, 1) := by decide +kernel
theorem dX6_send_79 : decode cX6_send 79 = .ok (.aload_n 0, 1) := by decide +kernel
theorem dX6_send_80 : decode cX6_send 80 = .ok (.iload 5, 2) := by decide +kernel
theorem dX6_send_82 : decode cX6_send 82 = .ok (.invokevirtual 160, 3) := by decide +kernel
theorem dX6_send_85 : decode cX6_send 85 = .ok (.ifCond .eq 7, 3) := by decide +kernel
theorem dX6_send_88 : decode cX6_send 88 = .ok (.iconst 1, 1) := by decide +kernel
theorem dX6_send_89 : decode cX6_send 89 = .ok (.goto 4, 3) := by decide +kernel
theorem dX6_send_92 : decode cX6_send 92 = .ok (.iconst 0, 1) := by decide +kernel
theorem dX6_send_93 : decode cX6_send 93 = .ok (.iadd, 1) := by decide +kernel
theorem dX6_send_94 : decode cX6_send 94 = .ok (.istore_n 3, 1) := by decide +kernel
theorem dX6_send_95 : decode cX6_send 95 = .ok (.iinc 4 (-1), 3) := by decide +kernel
theorem dX6_send_98 : decode cX6_send 98 = .ok (.iinc 5 1, 3) := by decide +kernel
theorem dX6_send_101 : decode cX6_send 101 = .ok (.goto (-58), 3) := by decide +kernel
theorem dX6_send_104 : decode cX6_send 104 = .ok (.aload_n 0, 1) := by decide +kernel
theorem dX6_send_105 : decode cX6_send 105 = .ok (.dup, 1) := by decide +kernel
theorem dX6_send_106 : decode cX6_send 106 = .ok (.getfield 163, 3) := by decide +kernel
theorem dX6_send_109 : decode cX6_send 109 = .ok (.iload_n 3, 1) := by decide +kernel
theorem dX6_send_110 : decode cX6_send 110 = .ok (.iadd, 1) := by decide +kernel
theorem dX6_send_111 : decode cX6_send 111 = .ok (.putfield 163, 3) := by decide +kernel
theorem dX6_send_114 : decode cX6_send 114 = .ok (.iload_n 3, 1) := by decide +kernel
theorem dX6_send_115 : decode cX6_send 115 = .ok (.ireturn, 1) := by decide +kernel
theorem dX6_waiting_0 : decode cX6_waiting 0 = .ok (.aload_n 0, 1) := by decide +kernel
theorem dX6_waiting_1 : decode cX6_waiting 1 = .ok (.iload_n 1, 1) := by decide +kernel
theorem dX6_waiting_2 : decode cX6_waiting 2 = .ok (.invokevirtual 123, 3) := by decide +kernel
theorem dX6_waiting_5 : decode cX6_waiting 5 = .ok (.ifCond .eq 7, 3) := by decide +kernel
theorem dX6_waiting_8 : decode cX6_waiting 8 = .ok (.iconst 0, 1) := by decide +kernel
theorem dX6_waiting_9 : decode cX6_waiting 9 = .ok (.goto 8, 3) := by decide +kernel
theorem dX6_waiting_12 : decode cX6_waiting 12 = .ok (.aload_n 0, 1) := by decide +kernel
theorem dX6_waiting_13 : decode cX6_waiting 13 = .ok (.iload_n 1, 1) := by decide +kernel
theorem dX6_waiting_14 : decode cX6_waiting 14 = .ok (.invokevirtual 147, 3) := by decide +kernel
theorem dX6_waiting_17 : decode cX6_waiting 17 = .ok (.ireturn, 1) := by decide +kernel
theorem dX6_refusalAt_0 : decode cX6_refusalAt 0 = .ok (.iconst 0, 1) := by decide +kernel
theorem dX6_refusalAt_1 : decode cX6_refusalAt 1 = .ok (.istore_n 3, 1) := by decide +kernel
theorem dX6_refusalAt_2 : decode cX6_refusalAt 2 = .ok (.iconst 0, 1) := by decide +kernel
theorem dX6_refusalAt_3 : decode cX6_refusalAt 3 = .ok (.istore 4, 2) := by decide +kernel
theorem dX6_refusalAt_5 : decode cX6_refusalAt 5 = .ok (.iload 4, 2) := by decide +kernel
theorem dX6_refusalAt_7 : decode cX6_refusalAt 7 = .ok (.aload_n 0, 1) := by decide +kernel
theorem dX6_refusalAt_8 : decode cX6_refusalAt 8 = .ok (.getfield 153, 3) := by decide +kernel
theorem dX6_refusalAt_11 : decode cX6_refusalAt 11 = .ok (.if_icmp .ge 36, 3) := by decide +kernel
theorem dX6_refusalAt_14 : decode cX6_refusalAt 14 = .ok (.aload_n 0, 1) := by decide +kernel
theorem dX6_refusalAt_15 : decode cX6_refusalAt 15 = .ok (.getfield 47, 3) := by decide +kernel
theorem dX6_refusalAt_18 : decode cX6_refusalAt 18 = .ok (.aload_n 0, 1) := by decide +kernel
theorem dX6_refusalAt_19 : decode cX6_refusalAt 19 = .ok (.getfield 65, 3) := by decide +kernel
theorem dX6_refusalAt_22 : decode cX6_refusalAt 22 = .ok (.iload 4, 2) := by decide +kernel
theorem dX6_refusalAt_24 : decode cX6_refusalAt 24 = .ok (.iaload, 1) := by decide +kernel
theorem dX6_refusalAt_25 : decode cX6_refusalAt 25 = .ok (.iaload, 1) := by decide +kernel
theorem dX6_refusalAt_26 : decode cX6_refusalAt 26 = .ok (.iload_n 1, 1) := by decide +kernel
theorem dX6_refusalAt_27 : decode cX6_refusalAt 27 = .ok (.if_icmp .ne 14, 3) := by decide +kernel
theorem dX6_refusalAt_30 : decode cX6_refusalAt 30 = .ok (.iload_n 3, 1) := by decide +kernel
theorem dX6_refusalAt_31 : decode cX6_refusalAt 31 = .ok (.iload_n 2, 1) := by decide +kernel
theorem dX6_refusalAt_32 : decode cX6_refusalAt 32 = .ok (.if_icmp .ne 6, 3) := by decide +kernel
theorem dX6_refusalAt_35 : decode cX6_refusalAt 35 = .ok (.iload 4, 2) := by decide +kernel
theorem dX6_refusalAt_37 : decode cX6_refusalAt 37 = .ok (.ireturn, 1) := by decide +kernel
theorem dX6_refusalAt_38 : decode cX6_refusalAt 38 = .ok (.iinc 3 1, 3) := by decide +kernel
theorem dX6_refusalAt_41 : decode cX6_refusalAt 41 = .ok (.iinc 4 1, 3) := by decide +kernel
theorem dX6_refusalAt_44 : decode cX6_refusalAt 44 = .ok (.goto (-39), 3) := by decide +kernel
theorem dX6_refusalAt_47 : decode cX6_refusalAt 47 = .ok (.iconst (-1), 1) := by decide +kernel
theorem dX6_refusalAt_48 : decode cX6_refusalAt 48 = .ok (.iload_n 3, 1) := by decide +kernel
theorem dX6_refusalAt_49 : decode cX6_refusalAt 49 = .ok (.isub, 1) := by decide +kernel
theorem dX6_refusalAt_50 : decode cX6_refusalAt 50 = .ok (.ireturn, 1) := by decide +kernel
theorem dX6_pile_0 : decode cX6_pile 0 = .ok (.aload_n 0, 1) := by decide +kernel
theorem dX6_pile_1 : decode cX6_pile 1 = .ok (.iload_n 1, 1) := by decide +kernel
theorem dX6_pile_2 : decode cX6_pile 2 = .ok (.invokevirtual 123, 3) := by decide +kernel
theorem dX6_pile_5 : decode cX6_pile 5 = .ok (.ifCond .eq 7, 3) := by decide +kernel
theorem dX6_pile_8 : decode cX6_pile 8 = .ok (.iconst 0, 1) := by decide +kernel
theorem dX6_pile_9 : decode cX6_pile 9 = .ok (.goto 11, 3) := by decide +kernel
theorem dX6_pile_12 : decode cX6_pile 12 = .ok (.iconst (-1), 1) := by decide +kernel
theorem dX6_pile_13 : decode cX6_pile 13 = .ok (.aload_n 0, 1) := by decide +kernel
theorem dX6_pile_14 : decode cX6_pile 14 = .ok (.iload_n 1, 1) := by decide +kernel
theorem dX6_pile_15 : decode cX6_pile 15 = .ok (.iconst (-1), 1) := by decide +kernel
theorem dX6_pile_16 : decode cX6_pile 16 = .ok (.invokevirtual 166, 3) := by decide +kernel
theorem dX6_pile_19 : decode cX6_pile 19 = .ok (.isub, 1) := by decide +kernel
theorem dX6_pile_20 : decode cX6_pile 20 = .ok (.ireturn, 1) := by decide +kernel
theorem dX6_noRefusal_0 : decode cX6_noRefusal 0 = .ok (.aload_n 0, 1) := by decide +kernel
theorem dX6_noRefusal_1 : decode cX6_noRefusal 1 = .ok (.iload_n 1, 1) := by decide +kernel
theorem dX6_noRefusal_2 : decode cX6_noRefusal 2 = .ok (.invokestatic 86, 3) := by decide +kernel
theorem dX6_noRefusal_5 : decode cX6_noRefusal 5 = .ok (.ifCond .eq 20, 3) := by decide +kernel
theorem dX6_noRefusal_8 : decode cX6_noRefusal 8 = .ok (.iload_n 2, 1) := by decide +kernel
theorem dX6_noRefusal_9 : decode cX6_noRefusal 9 = .ok (.ifCond .lt 16, 3) := by decide +kernel
theorem dX6_noRefusal_12 : decode cX6_noRefusal 12 = .ok (.aload_n 0, 1) := by decide +kernel
theorem dX6_noRefusal_13 : decode cX6_noRefusal 13 = .ok (.iload_n 1, 1) := by decide +kernel
theorem dX6_noRefusal_14 : decode cX6_noRefusal 14 = .ok (.iload_n 2, 1) := by decide +kernel
theorem dX6_noRefusal_15 : decode cX6_noRefusal 15 = .ok (.invokevirtual 166, 3) := by decide +kernel
theorem dX6_noRefusal_18 : decode cX6_noRefusal 18 = .ok (.ifCond .lt 7, 3) := by decide +kernel
theorem dX6_noRefusal_21 : decode cX6_noRefusal 21 = .ok (.iconst 0, 1) := by decide +kernel
theorem dX6_noRefusal_22 : decode cX6_noRefusal 22 = .ok (.goto 4, 3) := by decide +kernel
theorem dX6_noRefusal_25 : decode cX6_noRefusal 25 = .ok (.iconst 1, 1) := by decide +kernel
theorem dX6_noRefusal_26 : decode cX6_noRefusal 26 = .ok (.invokevirtual 89, 3) := by decide +kernel
theorem dX6_noRefusal_29 : decode cX6_noRefusal 29 = .ok (.ireturn, 1) := by decide +kernel
theorem dX6_reason_0 : decode cX6_reason 0 = .ok (.aload_n 0, 1) := by decide +kernel
theorem dX6_reason_1 : decode cX6_reason 1 = .ok (.iload_n 1, 1) := by decide +kernel
theorem dX6_reason_2 : decode cX6_reason 2 = .ok (.iload_n 2, 1) := by decide +kernel
theorem dX6_reason_3 : decode cX6_reason 3 = .ok (.invokevirtual 169, 3) := by decide +kernel
theorem dX6_reason_6 : decode cX6_reason 6 = .ok (.ifCond .eq 7, 3) := by decide +kernel
theorem dX6_reason_9 : decode cX6_reason 9 = .ok (.iconst 0, 1) := by decide +kernel
theorem dX6_reason_10 : decode cX6_reason 10 = .ok (.goto 14, 3) := by decide +kernel
theorem dX6_reason_13 : decode cX6_reason 13 = .ok (.aload_n 0, 1) := by decide +kernel
theorem dX6_reason_14 : decode cX6_reason 14 = .ok (.getfield 68, 3) := by decide +kernel
theorem dX6_reason_17 : decode cX6_reason 17 = .ok (.aload_n 0, 1) := by decide +kernel
theorem dX6_reason_18 : decode cX6_reason 18 = .ok (.iload_n 1, 1) := by decide +kernel
theorem dX6_reason_19 : decode cX6_reason 19 = .ok (.iload_n 2, 1) := by decide +kernel
theorem dX6_reason_20 : decode cX6_reason 20 = .ok (.invokevirtual 166, 3) := by decide +kernel
theorem dX6_reason_23 : decode cX6_reason 23 = .ok (.iaload, 1) := by decide +kernel
theorem dX6_reason_24 : decode cX6_reason 24 = .ok (.ireturn, 1) := by decide +kernel
theorem dX6_refusedValue_0 : decode cX6_refusedValue 0 = .ok (.aload_n 0, 1) := by decide +kernel
theorem dX6_refusedValue_1 : decode cX6_refusedValue 1 = .ok (.iload_n 1, 1) := by decide +kernel
theorem dX6_refusedValue_2 : decode cX6_refusedValue 2 = .ok (.iload_n 2, 1) := by decide +kernel
theorem dX6_refusedValue_3 : decode cX6_refusedValue 3 = .ok (.invokevirtual 169, 3) := by decide +kernel
theorem dX6_refusedValue_6 : decode cX6_refusedValue 6 = .ok (.ifCond .eq 7, 3) := by decide +kernel
theorem dX6_refusedValue_9 : decode cX6_refusedValue 9 = .ok (.iconst 0, 1) := by decide +kernel
theorem dX6_refusedValue_10 : decode cX6_refusedValue 10 = .ok (.goto 19, 3) := by decide +kernel
theorem dX6_refusedValue_13 : decode cX6_refusedValue 13 = .ok (.aload_n 0, 1) := by decide +kernel
theorem dX6_refusedValue_14 : decode cX6_refusedValue 14 = .ok (.getfield 56, 3) := by decide +kernel
theorem dX6_refusedValue_17 : decode cX6_refusedValue 17 = .ok (.aload_n 0, 1) := by decide +kernel
theorem dX6_refusedValue_18 : decode cX6_refusedValue 18 = .ok (.getfield 65, 3) := by decide +kernel
theorem dX6_refusedValue_21 : decode cX6_refusedValue 21 = .ok (.aload_n 0, 1) := by decide +kernel
theorem dX6_refusedValue_22 : decode cX6_refusedValue 22 = .ok (.iload_n 1, 1) := by decide +kernel
theorem dX6_refusedValue_23 : decode cX6_refusedValue 23 = .ok (.iload_n 2, 1) := by decide +kernel
theorem dX6_refusedValue_24 : decode cX6_refusedValue 24 = .ok (.invokevirtual 166, 3) := by decide +kernel
theorem dX6_refusedValue_27 : decode cX6_refusedValue 27 = .ok (.iaload, 1) := by decide +kernel
theorem dX6_refusedValue_28 : decode cX6_refusedValue 28 = .ok (.iaload, 1) := by decide +kernel
theorem dX6_refusedValue_29 : decode cX6_refusedValue 29 = .ok (.ireturn, 1) := by decide +kernel
theorem dX6_done_0 : decode cX6_done 0 = .ok (.aload_n 0, 1) := by decide +kernel
theorem dX6_done_1 : decode cX6_done 1 = .ok (.aload_n 0, 1) := by decide +kernel
theorem dX6_done_2 : decode cX6_done 2 = .ok (.getfield 163, 3) := by decide +kernel
theorem dX6_done_5 : decode cX6_done 5 = .ok (.invokevirtual 107, 3) := by decide +kernel
theorem dX6_done_8 : decode cX6_done 8 = .ok (.ireturn, 1) := by decide +kernel
theorem dJ9_max_7cf53_0 : decode cJ9_max_7cf53 0 = .ok (.iload_n 0, 1) := by decide +kernel
theorem dJ9_max_7cf53_1 : decode cJ9_max_7cf53 1 = .ok (.iload_n 1, 1) := by decide +kernel
theorem dJ9_max_7cf53_2 : decode cJ9_max_7cf53 2 = .ok (.if_icmp .lt 7, 3) := by decide +kernel
theorem dJ9_max_7cf53_5 : decode cJ9_max_7cf53 5 = .ok (.iload_n 0, 1) := by decide +kernel
theorem dJ9_max_7cf53_6 : decode cJ9_max_7cf53 6 = .ok (.goto 4, 3) := by decide +kernel
theorem dJ9_max_7cf53_9 : decode cJ9_max_7cf53 9 = .ok (.iload_n 1, 1) := by decide +kernel
theorem dJ9_max_7cf53_10 : decode cJ9_max_7cf53 10 = .ok (.ireturn, 1) := by decide +kernel
theorem dJ9_min_7cf53_0 : decode cJ9_min_7cf53 0 = .ok (.iload_n 0, 1) := by decide +kernel
theorem dJ9_min_7cf53_1 : decode cJ9_min_7cf53 1 = .ok (.iload_n 1, 1) := by decide +kernel
theorem dJ9_min_7cf53_2 : decode cJ9_min_7cf53 2 = .ok (.if_icmp .gt 7, 3) := by decide +kernel
theorem dJ9_min_7cf53_5 : decode cJ9_min_7cf53 5 = .ok (.iload_n 0, 1) := by decide +kernel
theorem dJ9_min_7cf53_6 : decode cJ9_min_7cf53 6 = .ok (.goto 4, 3) := by decide +kernel
theorem dJ9_min_7cf53_9 : decode cJ9_min_7cf53 9 = .ok (.iload_n 1, 1) := by decide +kernel
theorem dJ9_min_7cf53_10 : decode cJ9_min_7cf53 10 = .ok (.ireturn, 1) := by decide +kernel
theorem dJxa1e45_init_da8c8_0 : decode cJxa1e45_init_da8c8 0 = .ok (.aload_n 0, 1) := by decide +kernel
theorem dJxa1e45_init_da8c8_1 : decode cJxa1e45_init_da8c8 1 = .ok (.invokespecial 1, 3) := by decide +kernel
theorem dJxa1e45_init_da8c8_4 : decode cJxa1e45_init_da8c8 4 = .ok (.return_, 1) := by decide +kernel
theorem dJxc12de_init_da8c8_0 : decode cJxc12de_init_da8c8 0 = .ok (.aload_n 0, 1) := by decide +kernel
theorem dJxc12de_init_da8c8_1 : decode cJxc12de_init_da8c8 1 = .ok (.invokespecial 1, 3) := by decide +kernel
theorem dJxc12de_init_da8c8_4 : decode cJxc12de_init_da8c8 4 = .ok (.aload_n 0, 1) := by decide +kernel
theorem dJxc12de_init_da8c8_5 : decode cJxc12de_init_da8c8 5 = .ok (.iconst 0, 1) := by decide +kernel
theorem dJxc12de_init_da8c8_6 : decode cJxc12de_init_da8c8 6 = .ok (.putfield 7, 3) := by decide +kernel
theorem dJxc12de_init_da8c8_9 : decode cJxc12de_init_da8c8 9 = .ok (.return_, 1) := by decide +kernel
theorem dJx4a65c_init_da8c8_0 : decode cJx4a65c_init_da8c8 0 = .ok (.aload_n 0, 1) := by decide +kernel
theorem dJx4a65c_init_da8c8_1 : decode cJx4a65c_init_da8c8 1 = .ok (.invokespecial 1, 3) := by decide +kernel
theorem dJx4a65c_init_da8c8_4 : decode cJx4a65c_init_da8c8 4 = .ok (.aload_n 0, 1) := by decide +kernel
theorem dJx4a65c_init_da8c8_5 : decode cJx4a65c_init_da8c8 5 = .ok (.getstatic 39, 3) := by decide +kernel
theorem dJx4a65c_init_da8c8_8 : decode cJx4a65c_init_da8c8 8 = .ok (.putfield 9, 3) := by decide +kernel
theorem dJx4a65c_init_da8c8_11 : decode cJx4a65c_init_da8c8 11 = .ok (.return_, 1) := by decide +kernel
theorem dJx4a65c_grow_92f84_0 : decode cJx4a65c_grow_92f84 0 = .ok (.aload_n 0, 1) := by decide +kernel
theorem dJx4a65c_grow_92f84_1 : decode cJx4a65c_grow_92f84 1 = .ok (.getfield 9, 3) := by decide +kernel
theorem dJx4a65c_grow_92f84_4 : decode cJx4a65c_grow_92f84 4 = .ok (.arraylength, 1) := by decide +kernel
theorem dJx4a65c_grow_92f84_5 : decode cJx4a65c_grow_92f84 5 = .ok (.istore_n 2, 1) := by decide +kernel
theorem dJx4a65c_grow_92f84_6 : decode cJx4a65c_grow_92f84 6 = .ok (.iload_n 2, 1) := by decide +kernel
theorem dJx4a65c_grow_92f84_7 : decode cJx4a65c_grow_92f84 7 = .ok (.ifCond .gt 13, 3) := by decide +kernel
theorem dJx4a65c_grow_92f84_10 : decode cJx4a65c_grow_92f84 10 = .ok (.aload_n 0, 1) := by decide +kernel
theorem dJx4a65c_grow_92f84_11 : decode cJx4a65c_grow_92f84 11 = .ok (.getfield 9, 3) := by decide +kernel
theorem dJx4a65c_grow_92f84_14 : decode cJx4a65c_grow_92f84 14 = .ok (.getstatic 39, 3) := by decide +kernel
theorem dJx4a65c_grow_92f84_17 : decode cJx4a65c_grow_92f84 17 = .ok (.if_acmp .eq 28, 3) := by decide +kernel
theorem dJx4a65c_grow_92f84_20 : decode cJx4a65c_grow_92f84 20 = .ok (.iload_n 2, 1) := by decide +kernel
theorem dJx4a65c_grow_92f84_21 : decode cJx4a65c_grow_92f84 21 = .ok (.iload_n 1, 1) := by decide +kernel
theorem dJx4a65c_grow_92f84_22 : decode cJx4a65c_grow_92f84 22 = .ok (.iload_n 2, 1) := by decide +kernel
theorem dJx4a65c_grow_92f84_23 : decode cJx4a65c_grow_92f84 23 = .ok (.isub, 1) := by decide +kernel
theorem dJx4a65c_grow_92f84_24 : decode cJx4a65c_grow_92f84 24 = .ok (.iload_n 2, 1) := by decide +kernel
theorem dJx4a65c_grow_92f84_25 : decode cJx4a65c_grow_92f84 25 = .ok (.iconst 1, 1) := by decide +kernel
theorem dJx4a65c_grow_92f84_26 : decode cJx4a65c_grow_92f84 26 = .ok (.ishr, 1) := by decide +kernel
theorem dJx4a65c_grow_92f84_27 : decode cJx4a65c_grow_92f84 27 = .ok (.invokestatic 73, 3) := by decide +kernel
theorem dJx4a65c_grow_92f84_30 : decode cJx4a65c_grow_92f84 30 = .ok (.istore_n 3, 1) := by decide +kernel
theorem dJx4a65c_grow_92f84_31 : decode cJx4a65c_grow_92f84 31 = .ok (.aload_n 0, 1) := by decide +kernel
theorem dJx4a65c_grow_92f84_32 : decode cJx4a65c_grow_92f84 32 = .ok (.aload_n 0, 1) := by decide +kernel
theorem dJx4a65c_grow_92f84_33 : decode cJx4a65c_grow_92f84 33 = .ok (.getfield 9, 3) := by decide +kernel
theorem dJx4a65c_grow_92f84_36 : decode cJx4a65c_grow_92f84 36 = .ok (.iload_n 3, 1) := by decide +kernel
theorem dJx4a65c_grow_92f84_37 : decode cJx4a65c_grow_92f84 37 = .ok (.invokestatic 66, 3) := by decide +kernel
theorem dJx4a65c_grow_92f84_40 : decode cJx4a65c_grow_92f84 40 = .ok (.dup_x1, 1) := by decide +kernel
theorem dJx4a65c_grow_92f84_41 : decode cJx4a65c_grow_92f84 41 = .ok (.putfield 9, 3) := by decide +kernel
theorem dJx4a65c_grow_92f84_44 : decode cJx4a65c_grow_92f84 44 = .ok (.areturn, 1) := by decide +kernel
theorem dJx4a65c_grow_92f84_45 : decode cJx4a65c_grow_92f84 45 = .ok (.aload_n 0, 1) := by decide +kernel
theorem dJx4a65c_grow_92f84_46 : decode cJx4a65c_grow_92f84 46 = .ok (.bipush 10, 2) := by decide +kernel
theorem dJx4a65c_grow_92f84_48 : decode cJx4a65c_grow_92f84 48 = .ok (.iload_n 1, 1) := by decide +kernel
theorem dJx4a65c_grow_92f84_49 : decode cJx4a65c_grow_92f84 49 = .ok (.invokestatic 79, 3) := by decide +kernel
theorem dJx4a65c_grow_92f84_52 : decode cJx4a65c_grow_92f84 52 = .ok (.anewarray 7, 3) := by decide +kernel
theorem dJx4a65c_grow_92f84_55 : decode cJx4a65c_grow_92f84 55 = .ok (.dup_x1, 1) := by decide +kernel
theorem dJx4a65c_grow_92f84_56 : decode cJx4a65c_grow_92f84 56 = .ok (.putfield 9, 3) := by decide +kernel
theorem dJx4a65c_grow_92f84_59 : decode cJx4a65c_grow_92f84 59 = .ok (.areturn, 1) := by decide +kernel
theorem dJx4a65c_grow_d5877_0 : decode cJx4a65c_grow_d5877 0 = .ok (.aload_n 0, 1) := by decide +kernel
theorem dJx4a65c_grow_d5877_1 : decode cJx4a65c_grow_d5877 1 = .ok (.aload_n 0, 1) := by decide +kernel
theorem dJx4a65c_grow_d5877_2 : decode cJx4a65c_grow_d5877 2 = .ok (.getfield 48, 3) := by decide +kernel
theorem dJx4a65c_grow_d5877_5 : decode cJx4a65c_grow_d5877 5 = .ok (.iconst 1, 1) := by decide +kernel
theorem dJx4a65c_grow_d5877_6 : decode cJx4a65c_grow_d5877 6 = .ok (.iadd, 1) := by decide +kernel
theorem dJx4a65c_grow_d5877_7 : decode cJx4a65c_grow_d5877 7 = .ok (.invokevirtual 69, 3) := by decide +kernel
theorem dJx4a65c_grow_d5877_10 : decode cJx4a65c_grow_d5877 10 = .ok (.areturn, 1) := by decide +kernel
theorem dJx4a65c_size_8abf5_0 : decode cJx4a65c_size_8abf5 0 = .ok (.aload_n 0, 1) := by decide +kernel
theorem dJx4a65c_size_8abf5_1 : decode cJx4a65c_size_8abf5 1 = .ok (.getfield 48, 3) := by decide +kernel
theorem dJx4a65c_size_8abf5_4 : decode cJx4a65c_size_8abf5 4 = .ok (.ireturn, 1) := by decide +kernel
theorem dJx4a65c_elementData_915e3_0 : decode cJx4a65c_elementData_915e3 0 = .ok (.aload_n 0, 1) := by decide +kernel
theorem dJx4a65c_elementData_915e3_1 : decode cJx4a65c_elementData_915e3 1 = .ok (.getfield 9, 3) := by decide +kernel
theorem dJx4a65c_elementData_915e3_4 : decode cJx4a65c_elementData_915e3 4 = .ok (.iload_n 1, 1) := by decide +kernel
theorem dJx4a65c_elementData_915e3_5 : decode cJx4a65c_elementData_915e3 5 = .ok (.aaload, 1) := by decide +kernel
theorem dJx4a65c_elementData_915e3_6 : decode cJx4a65c_elementData_915e3 6 = .ok (.areturn, 1) := by decide +kernel
theorem dJx4a65c_get_915e3_0 : decode cJx4a65c_get_915e3 0 = .ok (.iload_n 1, 1) := by decide +kernel
theorem dJx4a65c_get_915e3_1 : decode cJx4a65c_get_915e3 1 = .ok (.aload_n 0, 1) := by decide +kernel
theorem dJx4a65c_get_915e3_2 : decode cJx4a65c_get_915e3 2 = .ok (.getfield 48, 3) := by decide +kernel
theorem dJx4a65c_get_915e3_5 : decode cJx4a65c_get_915e3 5 = .ok (.invokestatic 118, 3) := by decide +kernel
theorem dJx4a65c_get_915e3_8 : decode cJx4a65c_get_915e3 8 = .ok (.pop, 1) := by decide +kernel
theorem dJx4a65c_get_915e3_9 : decode cJx4a65c_get_915e3 9 = .ok (.aload_n 0, 1) := by decide +kernel
theorem dJx4a65c_get_915e3_10 : decode cJx4a65c_get_915e3 10 = .ok (.iload_n 1, 1) := by decide +kernel
theorem dJx4a65c_get_915e3_11 : decode cJx4a65c_get_915e3 11 = .ok (.invokevirtual 123, 3) := by decide +kernel
theorem dJx4a65c_get_915e3_14 : decode cJx4a65c_get_915e3 14 = .ok (.areturn, 1) := by decide +kernel
theorem dJx4a65c_add_72be8_0 : decode cJx4a65c_add_72be8 0 = .ok (.iload_n 3, 1) := by decide +kernel
theorem dJx4a65c_add_72be8_1 : decode cJx4a65c_add_72be8 1 = .ok (.aload_n 2, 1) := by decide +kernel
theorem dJx4a65c_add_72be8_2 : decode cJx4a65c_add_72be8 2 = .ok (.arraylength, 1) := by decide +kernel
theorem dJx4a65c_add_72be8_3 : decode cJx4a65c_add_72be8 3 = .ok (.if_icmp .ne 8, 3) := by decide +kernel
theorem dJx4a65c_add_72be8_6 : decode cJx4a65c_add_72be8 6 = .ok (.aload_n 0, 1) := by decide +kernel
theorem dJx4a65c_add_72be8_7 : decode cJx4a65c_add_72be8 7 = .ok (.invokevirtual 129, 3) := by decide +kernel
theorem dJx4a65c_add_72be8_10 : decode cJx4a65c_add_72be8 10 = .ok (.astore_n 2, 1) := by decide +kernel
theorem dJx4a65c_add_72be8_11 : decode cJx4a65c_add_72be8 11 = .ok (.aload_n 2, 1) := by decide +kernel
theorem dJx4a65c_add_72be8_12 : decode cJx4a65c_add_72be8 12 = .ok (.iload_n 3, 1) := by decide +kernel
theorem dJx4a65c_add_72be8_13 : decode cJx4a65c_add_72be8 13 = .ok (.aload_n 1, 1) := by decide +kernel
theorem dJx4a65c_add_72be8_14 : decode cJx4a65c_add_72be8 14 = .ok (.aastore, 1) := by decide +kernel
theorem dJx4a65c_add_72be8_15 : decode cJx4a65c_add_72be8 15 = .ok (.aload_n 0, 1) := by decide +kernel
theorem dJx4a65c_add_72be8_16 : decode cJx4a65c_add_72be8 16 = .ok (.iload_n 3, 1) := by decide +kernel
theorem dJx4a65c_add_72be8_17 : decode cJx4a65c_add_72be8 17 = .ok (.iconst 1, 1) := by decide +kernel
theorem dJx4a65c_add_72be8_18 : decode cJx4a65c_add_72be8 18 = .ok (.iadd, 1) := by decide +kernel
theorem dJx4a65c_add_72be8_19 : decode cJx4a65c_add_72be8 19 = .ok (.putfield 48, 3) := by decide +kernel
theorem dJx4a65c_add_72be8_22 : decode cJx4a65c_add_72be8 22 = .ok (.return_, 1) := by decide +kernel
theorem dJx4a65c_add_9ea2d_0 : decode cJx4a65c_add_9ea2d 0 = .ok (.aload_n 0, 1) := by decide +kernel
theorem dJx4a65c_add_9ea2d_1 : decode cJx4a65c_add_9ea2d 1 = .ok (.dup, 1) := by decide +kernel
theorem dJx4a65c_add_9ea2d_2 : decode cJx4a65c_add_9ea2d 2 = .ok (.getfield 63, 3) := by decide +kernel
theorem dJx4a65c_add_9ea2d_5 : decode cJx4a65c_add_9ea2d 5 = .ok (.iconst 1, 1) := by decide +kernel
theorem dJx4a65c_add_9ea2d_6 : decode cJx4a65c_add_9ea2d 6 = .ok (.iadd, 1) := by decide +kernel
theorem dJx4a65c_add_9ea2d_7 : decode cJx4a65c_add_9ea2d 7 = .ok (.putfield 63, 3) := by decide +kernel
theorem dJx4a65c_add_9ea2d_10 : decode cJx4a65c_add_9ea2d 10 = .ok (.aload_n 0, 1) := by decide +kernel
theorem dJx4a65c_add_9ea2d_11 : decode cJx4a65c_add_9ea2d 11 = .ok (.aload_n 1, 1) := by decide +kernel
theorem dJx4a65c_add_9ea2d_12 : decode cJx4a65c_add_9ea2d 12 = .ok (.aload_n 0, 1) := by decide +kernel
theorem dJx4a65c_add_9ea2d_13 : decode cJx4a65c_add_9ea2d 13 = .ok (.getfield 9, 3) := by decide +kernel
theorem dJx4a65c_add_9ea2d_16 : decode cJx4a65c_add_9ea2d 16 = .ok (.aload_n 0, 1) := by decide +kernel
theorem dJx4a65c_add_9ea2d_17 : decode cJx4a65c_add_9ea2d 17 = .ok (.getfield 48, 3) := by decide +kernel
theorem dJx4a65c_add_9ea2d_20 : decode cJx4a65c_add_9ea2d 20 = .ok (.invokevirtual 131, 3) := by decide +kernel
theorem dJx4a65c_add_9ea2d_23 : decode cJx4a65c_add_9ea2d 23 = .ok (.iconst 1, 1) := by decide +kernel
theorem dJx4a65c_add_9ea2d_24 : decode cJx4a65c_add_9ea2d 24 = .ok (.ireturn, 1) := by decide +kernel
theorem dJ7_copyOf_1904c_0 : decode cJ7_copyOf_1904c 0 = .ok (.aload_n 0, 1) := by decide +kernel
theorem dJ7_copyOf_1904c_1 : decode cJ7_copyOf_1904c 1 = .ok (.iload_n 1, 1) := by decide +kernel
theorem dJ7_copyOf_1904c_2 : decode cJ7_copyOf_1904c 2 = .ok (.aload_n 0, 1) := by decide +kernel
theorem dJ7_copyOf_1904c_3 : decode cJ7_copyOf_1904c 3 = .ok (.invokevirtual 86, 3) := by decide +kernel
theorem dJ7_copyOf_1904c_6 : decode cJ7_copyOf_1904c 6 = .ok (.invokestatic 300, 3) := by decide +kernel
theorem dJ7_copyOf_1904c_9 : decode cJ7_copyOf_1904c 9 = .ok (.areturn, 1) := by decide +kernel
theorem dJ7_copyOf_6403c_0 : decode cJ7_copyOf_6403c 0 = .ok (.aload_n 2, 1) := by decide +kernel
theorem dJ7_copyOf_6403c_1 : decode cJ7_copyOf_6403c 1 = .ok (.ldc 110, 2) := by decide +kernel
theorem dJ7_copyOf_6403c_3 : decode cJ7_copyOf_6403c 3 = .ok (.if_acmp .ne 10, 3) := by decide +kernel
theorem dJ7_copyOf_6403c_6 : decode cJ7_copyOf_6403c 6 = .ok (.iload_n 1, 1) := by decide +kernel
theorem dJ7_copyOf_6403c_7 : decode cJ7_copyOf_6403c 7 = .ok (.anewarray 2, 3) := by decide +kernel
theorem dJ7_copyOf_6403c_10 : decode cJ7_copyOf_6403c 10 = .ok (.goto 14, 3) := by decide +kernel
theorem dJ7_copyOf_6403c_13 : decode cJ7_copyOf_6403c 13 = .ok (.aload_n 2, 1) := by decide +kernel
theorem dJ7_copyOf_6403c_14 : decode cJ7_copyOf_6403c 14 = .ok (.invokevirtual 90, 3) := by decide +kernel
theorem dJ7_copyOf_6403c_17 : decode cJ7_copyOf_6403c 17 = .ok (.iload_n 1, 1) := by decide +kernel
theorem dJ7_copyOf_6403c_18 : decode cJ7_copyOf_6403c 18 = .ok (.invokestatic 95, 3) := by decide +kernel
theorem dJ7_copyOf_6403c_21 : decode cJ7_copyOf_6403c 21 = .ok (.checkcast 110, 3) := by decide +kernel
theorem dJ7_copyOf_6403c_24 : decode cJ7_copyOf_6403c 24 = .ok (.astore_n 3, 1) := by decide +kernel
theorem dJ7_copyOf_6403c_25 : decode cJ7_copyOf_6403c 25 = .ok (.aload_n 0, 1) := by decide +kernel
theorem dJ7_copyOf_6403c_26 : decode cJ7_copyOf_6403c 26 = .ok (.iconst 0, 1) := by decide +kernel
theorem dJ7_copyOf_6403c_27 : decode cJ7_copyOf_6403c 27 = .ok (.aload_n 3, 1) := by decide +kernel
theorem dJ7_copyOf_6403c_28 : decode cJ7_copyOf_6403c 28 = .ok (.iconst 0, 1) := by decide +kernel
theorem dJ7_copyOf_6403c_29 : decode cJ7_copyOf_6403c 29 = .ok (.aload_n 0, 1) := by decide +kernel
theorem dJ7_copyOf_6403c_30 : decode cJ7_copyOf_6403c 30 = .ok (.arraylength, 1) := by decide +kernel
theorem dJ7_copyOf_6403c_31 : decode cJ7_copyOf_6403c 31 = .ok (.iload_n 1, 1) := by decide +kernel
theorem dJ7_copyOf_6403c_32 : decode cJ7_copyOf_6403c 32 = .ok (.invokestatic 304, 3) := by decide +kernel
theorem dJ7_copyOf_6403c_35 : decode cJ7_copyOf_6403c 35 = .ok (.invokestatic 150, 3) := by decide +kernel
theorem dJ7_copyOf_6403c_38 : decode cJ7_copyOf_6403c 38 = .ok (.aload_n 3, 1) := by decide +kernel
theorem dJ7_copyOf_6403c_39 : decode cJ7_copyOf_6403c 39 = .ok (.areturn, 1) := by decide +kernel
theorem dJ15_checkIndex_7cf53_0 : decode cJ15_checkIndex_7cf53 0 = .ok (.iload_n 0, 1) := by decide +kernel
theorem dJ15_checkIndex_7cf53_1 : decode cJ15_checkIndex_7cf53 1 = .ok (.iload_n 1, 1) := by decide +kernel
theorem dJ15_checkIndex_7cf53_2 : decode cJ15_checkIndex_7cf53 2 = .ok (.aconst_null, 1) := by decide +kernel
theorem dJ15_checkIndex_7cf53_3 : decode cJ15_checkIndex_7cf53 3 = .ok (.invokestatic 105, 3) := by decide +kernel
theorem dJ15_checkIndex_7cf53_6 : decode cJ15_checkIndex_7cf53 6 = .ok (.ireturn, 1) := by decide +kernel
theorem dJ8_newLength_cabcc_0 : decode cJ8_newLength_cabcc 0 = .ok (.iload_n 0, 1) := by decide +kernel
theorem dJ8_newLength_cabcc_1 : decode cJ8_newLength_cabcc 1 = .ok (.iload_n 1, 1) := by decide +kernel
theorem dJ8_newLength_cabcc_2 : decode cJ8_newLength_cabcc 2 = .ok (.iload_n 2, 1) := by decide +kernel
theorem dJ8_newLength_cabcc_3 : decode cJ8_newLength_cabcc 3 = .ok (.invokestatic 194, 3) := by decide +kernel
theorem dJ8_newLength_cabcc_6 : decode cJ8_newLength_cabcc 6 = .ok (.iadd, 1) := by decide +kernel
theorem dJ8_newLength_cabcc_7 : decode cJ8_newLength_cabcc 7 = .ok (.istore_n 3, 1) := by decide +kernel
theorem dJ8_newLength_cabcc_8 : decode cJ8_newLength_cabcc 8 = .ok (.iconst 0, 1) := by decide +kernel
theorem dJ8_newLength_cabcc_9 : decode cJ8_newLength_cabcc 9 = .ok (.iload_n 3, 1) := by decide +kernel
theorem dJ8_newLength_cabcc_10 : decode cJ8_newLength_cabcc 10 = .ok (.if_icmp .ge 11, 3) := by decide +kernel
theorem dJ8_newLength_cabcc_13 : decode cJ8_newLength_cabcc 13 = .ok (.iload_n 3, 1) := by decide +kernel
theorem dJ8_newLength_cabcc_14 : decode cJ8_newLength_cabcc 14 = .ok (.ldc 200, 2) := by decide +kernel
theorem dJ8_newLength_cabcc_16 : decode cJ8_newLength_cabcc 16 = .ok (.if_icmp .gt 5, 3) := by decide +kernel
theorem dJ8_newLength_cabcc_19 : decode cJ8_newLength_cabcc 19 = .ok (.iload_n 3, 1) := by decide +kernel
theorem dJ8_newLength_cabcc_20 : decode cJ8_newLength_cabcc 20 = .ok (.ireturn, 1) := by decide +kernel
theorem dJ8_newLength_cabcc_21 : decode cJ8_newLength_cabcc 21 = .ok (.iload_n 0, 1) := by decide +kernel
theorem dJ8_newLength_cabcc_22 : decode cJ8_newLength_cabcc 22 = .ok (.iload_n 1, 1) := by decide +kernel
theorem dJ8_newLength_cabcc_23 : decode cJ8_newLength_cabcc 23 = .ok (.invokestatic 201, 3) := by decide +kernel
theorem dJ8_newLength_cabcc_26 : decode cJ8_newLength_cabcc 26 = .ok (.ireturn, 1) := by decide +kernel
theorem dJ8_hugeLength_7cf53_0 : decode cJ8_hugeLength_7cf53 0 = .ok (.iload_n 0, 1) := by decide +kernel
theorem dJ8_hugeLength_7cf53_1 : decode cJ8_hugeLength_7cf53 1 = .ok (.iload_n 1, 1) := by decide +kernel
theorem dJ8_hugeLength_7cf53_2 : decode cJ8_hugeLength_7cf53 2 = .ok (.iadd, 1) := by decide +kernel
theorem dJ8_hugeLength_7cf53_3 : decode cJ8_hugeLength_7cf53 3 = .ok (.istore_n 2, 1) := by decide +kernel
theorem dJ8_hugeLength_7cf53_4 : decode cJ8_hugeLength_7cf53 4 = .ok (.iload_n 2, 1) := by decide +kernel
theorem dJ8_hugeLength_7cf53_5 : decode cJ8_hugeLength_7cf53 5 = .ok (.ifCond .ge 44, 3) := by decide +kernel
theorem dJ8_hugeLength_7cf53_8 : decode cJ8_hugeLength_7cf53 8 = .ok (.new 204, 3) := by decide +kernel
theorem dJ8_hugeLength_7cf53_11 : decode cJ8_hugeLength_7cf53 11 = .ok (.dup, 1) := by decide +kernel
theorem dJ8_hugeLength_7cf53_12 : decode cJ8_hugeLength_7cf53 12 = .ok (.new 89, 3) := by decide +kernel
theorem dJ8_hugeLength_7cf53_15 : decode cJ8_hugeLength_7cf53 15 = .ok (.dup, 1) := by decide +kernel
theorem dJ8_hugeLength_7cf53_16 : decode cJ8_hugeLength_7cf53 16 = .ok (.invokespecial 91, 3) := by decide +kernel
theorem dJ8_hugeLength_7cf53_19 : decode cJ8_hugeLength_7cf53 19 = .ok (.ldc 206, 2) := by decide +kernel
theorem dJ8_hugeLength_7cf53_21 : decode cJ8_hugeLength_7cf53 21 = .ok (.invokevirtual 94, 3) := by decide +kernel
theorem dJ8_hugeLength_7cf53_24 : decode cJ8_hugeLength_7cf53 24 = .ok (.iload_n 0, 1) := by decide +kernel
theorem dJ8_hugeLength_7cf53_25 : decode cJ8_hugeLength_7cf53 25 = .ok (.invokevirtual 98, 3) := by decide +kernel
theorem dJ8_hugeLength_7cf53_28 : decode cJ8_hugeLength_7cf53 28 = .ok (.ldc 208, 2) := by decide +kernel
theorem dJ8_hugeLength_7cf53_30 : decode cJ8_hugeLength_7cf53 30 = .ok (.invokevirtual 94, 3) := by decide +kernel
theorem dJ8_hugeLength_7cf53_33 : decode cJ8_hugeLength_7cf53 33 = .ok (.iload_n 1, 1) := by decide +kernel
theorem dJ8_hugeLength_7cf53_34 : decode cJ8_hugeLength_7cf53 34 = .ok (.invokevirtual 98, 3) := by decide +kernel
theorem dJ8_hugeLength_7cf53_37 : decode cJ8_hugeLength_7cf53 37 = .ok (.ldc 210, 2) := by decide +kernel
theorem dJ8_hugeLength_7cf53_39 : decode cJ8_hugeLength_7cf53 39 = .ok (.invokevirtual 94, 3) := by decide +kernel
theorem dJ8_hugeLength_7cf53_42 : decode cJ8_hugeLength_7cf53 42 = .ok (.invokevirtual 101, 3) := by decide +kernel
theorem dJ8_hugeLength_7cf53_45 : decode cJ8_hugeLength_7cf53 45 = .ok (.invokespecial 212, 3) := by decide +kernel
theorem dJ8_hugeLength_7cf53_48 : decode cJ8_hugeLength_7cf53 48 = .ok (.athrow, 1) := by decide +kernel
theorem dJ8_hugeLength_7cf53_49 : decode cJ8_hugeLength_7cf53 49 = .ok (.iload_n 2, 1) := by decide +kernel
theorem dJ8_hugeLength_7cf53_50 : decode cJ8_hugeLength_7cf53 50 = .ok (.ldc 200, 2) := by decide +kernel
theorem dJ8_hugeLength_7cf53_52 : decode cJ8_hugeLength_7cf53 52 = .ok (.if_icmp .gt 6, 3) := by decide +kernel
theorem dJ8_hugeLength_7cf53_55 : decode cJ8_hugeLength_7cf53 55 = .ok (.ldc 200, 2) := by decide +kernel
theorem dJ8_hugeLength_7cf53_57 : decode cJ8_hugeLength_7cf53 57 = .ok (.ireturn, 1) := by decide +kernel
theorem dJ8_hugeLength_7cf53_58 : decode cJ8_hugeLength_7cf53 58 = .ok (.iload_n 2, 1) := by decide +kernel
theorem dJ8_hugeLength_7cf53_59 : decode cJ8_hugeLength_7cf53 59 = .ok (.ireturn, 1) := by decide +kernel
theorem dJ3_checkIndex_8e157_0 : decode cJ3_checkIndex_8e157 0 = .ok (.iload_n 0, 1) := by decide +kernel
theorem dJ3_checkIndex_8e157_1 : decode cJ3_checkIndex_8e157 1 = .ok (.ifCond .lt 8, 3) := by decide +kernel
theorem dJ3_checkIndex_8e157_4 : decode cJ3_checkIndex_8e157 4 = .ok (.iload_n 0, 1) := by decide +kernel
theorem dJ3_checkIndex_8e157_5 : decode cJ3_checkIndex_8e157 5 = .ok (.iload_n 1, 1) := by decide +kernel
theorem dJ3_checkIndex_8e157_6 : decode cJ3_checkIndex_8e157 6 = .ok (.if_icmp .lt 10, 3) := by decide +kernel
theorem dJ3_checkIndex_8e157_9 : decode cJ3_checkIndex_8e157 9 = .ok (.aload_n 2, 1) := by decide +kernel
theorem dJ3_checkIndex_8e157_10 : decode cJ3_checkIndex_8e157 10 = .ok (.iload_n 0, 1) := by decide +kernel
theorem dJ3_checkIndex_8e157_11 : decode cJ3_checkIndex_8e157 11 = .ok (.iload_n 1, 1) := by decide +kernel
theorem dJ3_checkIndex_8e157_12 : decode cJ3_checkIndex_8e157 12 = .ok (.invokestatic 95, 3) := by decide +kernel
theorem dJ3_checkIndex_8e157_15 : decode cJ3_checkIndex_8e157 15 = .ok (.athrow, 1) := by decide +kernel
theorem dJ3_checkIndex_8e157_16 : decode cJ3_checkIndex_8e157 16 = .ok (.iload_n 0, 1) := by decide +kernel
theorem dJ3_checkIndex_8e157_17 : decode cJ3_checkIndex_8e157 17 = .ok (.ireturn, 1) := by decide +kernel
theorem dL_add_0 : decode cL_add 0 = .ok (.aload_n 3, 1) := by decide +kernel
theorem dL_add_1 : decode cL_add 1 = .ok (.iconst 0, 1) := by decide +kernel
theorem dL_add_2 : decode cL_add 2 = .ok (.aload_n 0, 1) := by decide +kernel
theorem dL_add_3 : decode cL_add 3 = .ok (.iload_n 1, 1) := by decide +kernel
theorem dL_add_4 : decode cL_add 4 = .ok (.iload_n 2, 1) := by decide +kernel
theorem dL_add_5 : decode cL_add 5 = .ok (.invokevirtual 7, 3) := by decide +kernel
theorem dL_add_8 : decode cL_add 8 = .ok (.i2l, 1) := by decide +kernel
theorem dL_add_9 : decode cL_add 9 = .ok (.lastore, 1) := by decide +kernel
theorem dL_add_10 : decode cL_add 10 = .ok (.goto 11, 3) := by decide +kernel
theorem dL_add_13 : decode cL_add 13 = .ok (.astore 4, 2) := by decide +kernel
theorem dL_add_15 : decode cL_add 15 = .ok (.iconst 1, 1) := by decide +kernel
theorem dL_add_16 : decode cL_add 16 = .ok (.ireturn, 1) := by decide +kernel
theorem dL_add_17 : decode cL_add 17 = .ok (.astore 4, 2) := by decide +kernel
theorem dL_add_19 : decode cL_add 19 = .ok (.iconst 2, 1) := by decide +kernel
theorem dL_add_20 : decode cL_add 20 = .ok (.ireturn, 1) := by decide +kernel
theorem dL_add_21 : decode cL_add 21 = .ok (.iconst 0, 1) := by decide +kernel
theorem dL_add_22 : decode cL_add 22 = .ok (.ireturn, 1) := by decide +kernel
theorem dL_give_0 : decode cL_give 0 = .ok (.aload_n 3, 1) := by decide +kernel
theorem dL_give_1 : decode cL_give 1 = .ok (.iconst 0, 1) := by decide +kernel
theorem dL_give_2 : decode cL_give 2 = .ok (.aload_n 0, 1) := by decide +kernel
theorem dL_give_3 : decode cL_give 3 = .ok (.iload_n 1, 1) := by decide +kernel
theorem dL_give_4 : decode cL_give 4 = .ok (.iload_n 2, 1) := by decide +kernel
theorem dL_give_5 : decode cL_give 5 = .ok (.invokevirtual 17, 3) := by decide +kernel
theorem dL_give_8 : decode cL_give 8 = .ok (.i2l, 1) := by decide +kernel
theorem dL_give_9 : decode cL_give 9 = .ok (.lastore, 1) := by decide +kernel
theorem dL_give_10 : decode cL_give 10 = .ok (.goto 11, 3) := by decide +kernel
theorem dL_give_13 : decode cL_give 13 = .ok (.astore 4, 2) := by decide +kernel
theorem dL_give_15 : decode cL_give 15 = .ok (.iconst 1, 1) := by decide +kernel
theorem dL_give_16 : decode cL_give 16 = .ok (.ireturn, 1) := by decide +kernel
theorem dL_give_17 : decode cL_give 17 = .ok (.astore 4, 2) := by decide +kernel
theorem dL_give_19 : decode cL_give 19 = .ok (.iconst 2, 1) := by decide +kernel
theorem dL_give_20 : decode cL_give 20 = .ok (.ireturn, 1) := by decide +kernel
theorem dL_give_21 : decode cL_give 21 = .ok (.iconst 0, 1) := by decide +kernel
theorem dL_give_22 : decode cL_give 22 = .ok (.ireturn, 1) := by decide +kernel
theorem dL_set_0 : decode cL_set 0 = .ok (.aload 4, 2) := by decide +kernel
theorem dL_set_2 : decode cL_set 2 = .ok (.iconst 0, 1) := by decide +kernel
theorem dL_set_3 : decode cL_set 3 = .ok (.aload_n 0, 1) := by decide +kernel
theorem dL_set_4 : decode cL_set 4 = .ok (.iload_n 1, 1) := by decide +kernel
theorem dL_set_5 : decode cL_set 5 = .ok (.iload_n 2, 1) := by decide +kernel
theorem dL_set_6 : decode cL_set 6 = .ok (.iload_n 3, 1) := by decide +kernel
theorem dL_set_7 : decode cL_set 7 = .ok (.invokevirtual 22, 3) := by decide +kernel
theorem dL_set_10 : decode cL_set 10 = .ok (.i2l, 1) := by decide +kernel
theorem dL_set_11 : decode cL_set 11 = .ok (.lastore, 1) := by decide +kernel
theorem dL_set_12 : decode cL_set 12 = .ok (.goto 11, 3) := by decide +kernel
theorem dL_set_15 : decode cL_set 15 = .ok (.astore 5, 2) := by decide +kernel
theorem dL_set_17 : decode cL_set 17 = .ok (.iconst 1, 1) := by decide +kernel
theorem dL_set_18 : decode cL_set 18 = .ok (.ireturn, 1) := by decide +kernel
theorem dL_set_19 : decode cL_set 19 = .ok (.astore 5, 2) := by decide +kernel
theorem dL_set_21 : decode cL_set 21 = .ok (.iconst 2, 1) := by decide +kernel
theorem dL_set_22 : decode cL_set 22 = .ok (.ireturn, 1) := by decide +kernel
theorem dL_set_23 : decode cL_set 23 = .ok (.iconst 0, 1) := by decide +kernel
theorem dL_set_24 : decode cL_set 24 = .ok (.ireturn, 1) := by decide +kernel
theorem dL_crew_0 : decode cL_crew 0 = .ok (.aload_n 2, 1) := by decide +kernel
theorem dL_crew_1 : decode cL_crew 1 = .ok (.iconst 0, 1) := by decide +kernel
theorem dL_crew_2 : decode cL_crew 2 = .ok (.aload_n 0, 1) := by decide +kernel
theorem dL_crew_3 : decode cL_crew 3 = .ok (.iload_n 1, 1) := by decide +kernel
theorem dL_crew_4 : decode cL_crew 4 = .ok (.invokevirtual 26, 3) := by decide +kernel
theorem dL_crew_7 : decode cL_crew 7 = .ok (.i2l, 1) := by decide +kernel
theorem dL_crew_8 : decode cL_crew 8 = .ok (.lastore, 1) := by decide +kernel
theorem dL_crew_9 : decode cL_crew 9 = .ok (.goto 6, 3) := by decide +kernel
theorem dL_crew_12 : decode cL_crew 12 = .ok (.astore_n 3, 1) := by decide +kernel
theorem dL_crew_13 : decode cL_crew 13 = .ok (.iconst 1, 1) := by decide +kernel
theorem dL_crew_14 : decode cL_crew 14 = .ok (.ireturn, 1) := by decide +kernel
theorem dL_crew_15 : decode cL_crew 15 = .ok (.iconst 0, 1) := by decide +kernel
theorem dL_crew_16 : decode cL_crew 16 = .ok (.ireturn, 1) := by decide +kernel
theorem dL_site_0 : decode cL_site 0 = .ok (.aload_n 2, 1) := by decide +kernel
theorem dL_site_1 : decode cL_site 1 = .ok (.iconst 0, 1) := by decide +kernel
theorem dL_site_2 : decode cL_site 2 = .ok (.aload_n 0, 1) := by decide +kernel
theorem dL_site_3 : decode cL_site 3 = .ok (.iload_n 1, 1) := by decide +kernel
theorem dL_site_4 : decode cL_site 4 = .ok (.invokevirtual 30, 3) := by decide +kernel
theorem dL_site_7 : decode cL_site 7 = .ok (.i2l, 1) := by decide +kernel
theorem dL_site_8 : decode cL_site 8 = .ok (.lastore, 1) := by decide +kernel
theorem dL_site_9 : decode cL_site 9 = .ok (.goto 6, 3) := by decide +kernel
theorem dL_site_12 : decode cL_site 12 = .ok (.astore_n 3, 1) := by decide +kernel
theorem dL_site_13 : decode cL_site 13 = .ok (.iconst 1, 1) := by decide +kernel
theorem dL_site_14 : decode cL_site 14 = .ok (.ireturn, 1) := by decide +kernel
theorem dL_site_15 : decode cL_site 15 = .ok (.iconst 0, 1) := by decide +kernel
theorem dL_site_16 : decode cL_site 16 = .ok (.ireturn, 1) := by decide +kernel
theorem dL_value_0 : decode cL_value 0 = .ok (.aload_n 3, 1) := by decide +kernel
theorem dL_value_1 : decode cL_value 1 = .ok (.iconst 0, 1) := by decide +kernel
theorem dL_value_2 : decode cL_value 2 = .ok (.aload_n 0, 1) := by decide +kernel
theorem dL_value_3 : decode cL_value 3 = .ok (.iload_n 1, 1) := by decide +kernel
theorem dL_value_4 : decode cL_value 4 = .ok (.iload_n 2, 1) := by decide +kernel
theorem dL_value_5 : decode cL_value 5 = .ok (.invokevirtual 33, 3) := by decide +kernel
theorem dL_value_8 : decode cL_value 8 = .ok (.i2l, 1) := by decide +kernel
theorem dL_value_9 : decode cL_value 9 = .ok (.lastore, 1) := by decide +kernel
theorem dL_value_10 : decode cL_value 10 = .ok (.goto 11, 3) := by decide +kernel
theorem dL_value_13 : decode cL_value 13 = .ok (.astore 4, 2) := by decide +kernel
theorem dL_value_15 : decode cL_value 15 = .ok (.iconst 1, 1) := by decide +kernel
theorem dL_value_16 : decode cL_value 16 = .ok (.ireturn, 1) := by decide +kernel
theorem dL_value_17 : decode cL_value 17 = .ok (.astore 4, 2) := by decide +kernel
theorem dL_value_19 : decode cL_value 19 = .ok (.iconst 2, 1) := by decide +kernel
theorem dL_value_20 : decode cL_value 20 = .ok (.ireturn, 1) := by decide +kernel
theorem dL_value_21 : decode cL_value 21 = .ok (.iconst 0, 1) := by decide +kernel
theorem dL_value_22 : decode cL_value 22 = .ok (.ireturn, 1) := by decide +kernel
theorem dL_version_0 : decode cL_version 0 = .ok (.aload_n 3, 1) := by decide +kernel
theorem dL_version_1 : decode cL_version 1 = .ok (.iconst 0, 1) := by decide +kernel
theorem dL_version_2 : decode cL_version 2 = .ok (.aload_n 0, 1) := by decide +kernel
theorem dL_version_3 : decode cL_version 3 = .ok (.iload_n 1, 1) := by decide +kernel
theorem dL_version_4 : decode cL_version 4 = .ok (.iload_n 2, 1) := by decide +kernel
theorem dL_version_5 : decode cL_version 5 = .ok (.invokevirtual 36, 3) := by decide +kernel
theorem dL_version_8 : decode cL_version 8 = .ok (.i2l, 1) := by decide +kernel
theorem dL_version_9 : decode cL_version 9 = .ok (.lastore, 1) := by decide +kernel
theorem dL_version_10 : decode cL_version 10 = .ok (.goto 11, 3) := by decide +kernel
theorem dL_version_13 : decode cL_version 13 = .ok (.astore 4, 2) := by decide +kernel
theorem dL_version_15 : decode cL_version 15 = .ok (.iconst 1, 1) := by decide +kernel
theorem dL_version_16 : decode cL_version 16 = .ok (.ireturn, 1) := by decide +kernel
theorem dL_version_17 : decode cL_version 17 = .ok (.astore 4, 2) := by decide +kernel
theorem dL_version_19 : decode cL_version 19 = .ok (.iconst 2, 1) := by decide +kernel
theorem dL_version_20 : decode cL_version 20 = .ok (.ireturn, 1) := by decide +kernel
theorem dL_version_21 : decode cL_version 21 = .ok (.iconst 0, 1) := by decide +kernel
theorem dL_version_22 : decode cL_version 22 = .ok (.ireturn, 1) := by decide +kernel
theorem dL_setRoom_0 : decode cL_setRoom 0 = .ok (.aload_n 3, 1) := by decide +kernel
theorem dL_setRoom_1 : decode cL_setRoom 1 = .ok (.iconst 0, 1) := by decide +kernel
theorem dL_setRoom_2 : decode cL_setRoom 2 = .ok (.aload_n 0, 1) := by decide +kernel
theorem dL_setRoom_3 : decode cL_setRoom 3 = .ok (.iload_n 1, 1) := by decide +kernel
theorem dL_setRoom_4 : decode cL_setRoom 4 = .ok (.iload_n 2, 1) := by decide +kernel
theorem dL_setRoom_5 : decode cL_setRoom 5 = .ok (.invokevirtual 39, 3) := by decide +kernel
theorem dL_setRoom_8 : decode cL_setRoom 8 = .ok (.i2l, 1) := by decide +kernel
theorem dL_setRoom_9 : decode cL_setRoom 9 = .ok (.lastore, 1) := by decide +kernel
theorem dL_setRoom_10 : decode cL_setRoom 10 = .ok (.goto 11, 3) := by decide +kernel
theorem dL_setRoom_13 : decode cL_setRoom 13 = .ok (.astore 4, 2) := by decide +kernel
theorem dL_setRoom_15 : decode cL_setRoom 15 = .ok (.iconst 1, 1) := by decide +kernel
theorem dL_setRoom_16 : decode cL_setRoom 16 = .ok (.ireturn, 1) := by decide +kernel
theorem dL_setRoom_17 : decode cL_setRoom 17 = .ok (.astore 4, 2) := by decide +kernel
theorem dL_setRoom_19 : decode cL_setRoom 19 = .ok (.iconst 2, 1) := by decide +kernel
theorem dL_setRoom_20 : decode cL_setRoom 20 = .ok (.ireturn, 1) := by decide +kernel
theorem dL_setRoom_21 : decode cL_setRoom 21 = .ok (.iconst 0, 1) := by decide +kernel
theorem dL_setRoom_22 : decode cL_setRoom 22 = .ok (.ireturn, 1) := by decide +kernel
theorem dL_fetch_0 : decode cL_fetch 0 = .ok (.aload_n 2, 1) := by decide +kernel
theorem dL_fetch_1 : decode cL_fetch 1 = .ok (.iconst 0, 1) := by decide +kernel
theorem dL_fetch_2 : decode cL_fetch 2 = .ok (.aload_n 0, 1) := by decide +kernel
theorem dL_fetch_3 : decode cL_fetch 3 = .ok (.iload_n 1, 1) := by decide +kernel
theorem dL_fetch_4 : decode cL_fetch 4 = .ok (.invokevirtual 42, 3) := by decide +kernel
theorem dL_fetch_7 : decode cL_fetch 7 = .ok (.i2l, 1) := by decide +kernel
theorem dL_fetch_8 : decode cL_fetch 8 = .ok (.lastore, 1) := by decide +kernel
theorem dL_fetch_9 : decode cL_fetch 9 = .ok (.goto 6, 3) := by decide +kernel
theorem dL_fetch_12 : decode cL_fetch 12 = .ok (.astore_n 3, 1) := by decide +kernel
theorem dL_fetch_13 : decode cL_fetch 13 = .ok (.iconst 1, 1) := by decide +kernel
theorem dL_fetch_14 : decode cL_fetch 14 = .ok (.ireturn, 1) := by decide +kernel
theorem dL_fetch_15 : decode cL_fetch 15 = .ok (.iconst 0, 1) := by decide +kernel
theorem dL_fetch_16 : decode cL_fetch 16 = .ok (.ireturn, 1) := by decide +kernel
theorem dL_held_0 : decode cL_held 0 = .ok (.aload_n 2, 1) := by decide +kernel
theorem dL_held_1 : decode cL_held 1 = .ok (.iconst 0, 1) := by decide +kernel
theorem dL_held_2 : decode cL_held 2 = .ok (.aload_n 0, 1) := by decide +kernel
theorem dL_held_3 : decode cL_held 3 = .ok (.iload_n 1, 1) := by decide +kernel
theorem dL_held_4 : decode cL_held 4 = .ok (.invokevirtual 45, 3) := by decide +kernel
theorem dL_held_7 : decode cL_held 7 = .ok (.i2l, 1) := by decide +kernel
theorem dL_held_8 : decode cL_held 8 = .ok (.lastore, 1) := by decide +kernel
theorem dL_held_9 : decode cL_held 9 = .ok (.goto 6, 3) := by decide +kernel
theorem dL_held_12 : decode cL_held 12 = .ok (.astore_n 3, 1) := by decide +kernel
theorem dL_held_13 : decode cL_held 13 = .ok (.iconst 1, 1) := by decide +kernel
theorem dL_held_14 : decode cL_held 14 = .ok (.ireturn, 1) := by decide +kernel
theorem dL_held_15 : decode cL_held 15 = .ok (.iconst 0, 1) := by decide +kernel
theorem dL_held_16 : decode cL_held 16 = .ok (.ireturn, 1) := by decide +kernel
theorem dL_holds_0 : decode cL_holds 0 = .ok (.aload_n 3, 1) := by decide +kernel
theorem dL_holds_1 : decode cL_holds 1 = .ok (.iconst 0, 1) := by decide +kernel
theorem dL_holds_2 : decode cL_holds 2 = .ok (.aload_n 0, 1) := by decide +kernel
theorem dL_holds_3 : decode cL_holds 3 = .ok (.iload_n 1, 1) := by decide +kernel
theorem dL_holds_4 : decode cL_holds 4 = .ok (.iload_n 2, 1) := by decide +kernel
theorem dL_holds_5 : decode cL_holds 5 = .ok (.invokevirtual 48, 3) := by decide +kernel
theorem dL_holds_8 : decode cL_holds 8 = .ok (.ifCond .eq 7, 3) := by decide +kernel
theorem dL_holds_11 : decode cL_holds 11 = .ok (.lconst 1, 1) := by decide +kernel
theorem dL_holds_12 : decode cL_holds 12 = .ok (.goto 4, 3) := by decide +kernel
theorem dL_holds_15 : decode cL_holds 15 = .ok (.lconst 0, 1) := by decide +kernel
theorem dL_holds_16 : decode cL_holds 16 = .ok (.lastore, 1) := by decide +kernel
theorem dL_holds_17 : decode cL_holds 17 = .ok (.goto 7, 3) := by decide +kernel
theorem dL_holds_20 : decode cL_holds 20 = .ok (.astore 4, 2) := by decide +kernel
theorem dL_holds_22 : decode cL_holds 22 = .ok (.iconst 1, 1) := by decide +kernel
theorem dL_holds_23 : decode cL_holds 23 = .ok (.ireturn, 1) := by decide +kernel
theorem dL_holds_24 : decode cL_holds 24 = .ok (.iconst 0, 1) := by decide +kernel
theorem dL_holds_25 : decode cL_holds 25 = .ok (.ireturn, 1) := by decide +kernel
theorem dL_heldValue_0 : decode cL_heldValue 0 = .ok (.aload 4, 2) := by decide +kernel
theorem dL_heldValue_2 : decode cL_heldValue 2 = .ok (.iconst 0, 1) := by decide +kernel
theorem dL_heldValue_3 : decode cL_heldValue 3 = .ok (.aload_n 0, 1) := by decide +kernel
theorem dL_heldValue_4 : decode cL_heldValue 4 = .ok (.iload_n 1, 1) := by decide +kernel
theorem dL_heldValue_5 : decode cL_heldValue 5 = .ok (.iload_n 2, 1) := by decide +kernel
theorem dL_heldValue_6 : decode cL_heldValue 6 = .ok (.iload_n 3, 1) := by decide +kernel
theorem dL_heldValue_7 : decode cL_heldValue 7 = .ok (.invokevirtual 52, 3) := by decide +kernel
theorem dL_heldValue_10 : decode cL_heldValue 10 = .ok (.i2l, 1) := by decide +kernel
theorem dL_heldValue_11 : decode cL_heldValue 11 = .ok (.lastore, 1) := by decide +kernel
theorem dL_heldValue_12 : decode cL_heldValue 12 = .ok (.goto 15, 3) := by decide +kernel
theorem dL_heldValue_15 : decode cL_heldValue 15 = .ok (.astore 5, 2) := by decide +kernel
theorem dL_heldValue_17 : decode cL_heldValue 17 = .ok (.iconst 1, 1) := by decide +kernel
theorem dL_heldValue_18 : decode cL_heldValue 18 = .ok (.ireturn, 1) := by decide +kernel
theorem dL_heldValue_19 : decode cL_heldValue 19 = .ok (.astore 5, 2) := by decide +kernel
theorem dL_heldValue_21 : decode cL_heldValue 21 = .ok (.iconst 2, 1) := by decide +kernel
theorem dL_heldValue_22 : decode cL_heldValue 22 = .ok (.ireturn, 1) := by decide +kernel
theorem dL_heldValue_23 : decode cL_heldValue 23 = .ok (.astore 5, 2) := by decide +kernel
theorem dL_heldValue_25 : decode cL_heldValue 25 = .ok (.iconst 3, 1) := by decide +kernel
theorem dL_heldValue_26 : decode cL_heldValue 26 = .ok (.ireturn, 1) := by decide +kernel
theorem dL_heldValue_27 : decode cL_heldValue 27 = .ok (.iconst 0, 1) := by decide +kernel
theorem dL_heldValue_28 : decode cL_heldValue 28 = .ok (.ireturn, 1) := by decide +kernel
theorem dL_change_0 : decode cL_change 0 = .ok (.aload 5, 2) := by decide +kernel
theorem dL_change_2 : decode cL_change 2 = .ok (.iconst 0, 1) := by decide +kernel
theorem dL_change_3 : decode cL_change 3 = .ok (.aload_n 0, 1) := by decide +kernel
theorem dL_change_4 : decode cL_change 4 = .ok (.iload_n 1, 1) := by decide +kernel
theorem dL_change_5 : decode cL_change 5 = .ok (.iload_n 2, 1) := by decide +kernel
theorem dL_change_6 : decode cL_change 6 = .ok (.iload_n 3, 1) := by decide +kernel
theorem dL_change_7 : decode cL_change 7 = .ok (.iload 4, 2) := by decide +kernel
theorem dL_change_9 : decode cL_change 9 = .ok (.invokevirtual 55, 3) := by decide +kernel
theorem dL_change_12 : decode cL_change 12 = .ok (.i2l, 1) := by decide +kernel
theorem dL_change_13 : decode cL_change 13 = .ok (.lastore, 1) := by decide +kernel
theorem dL_change_14 : decode cL_change 14 = .ok (.goto 15, 3) := by decide +kernel
theorem dL_change_17 : decode cL_change 17 = .ok (.astore 6, 2) := by decide +kernel
theorem dL_change_19 : decode cL_change 19 = .ok (.iconst 1, 1) := by decide +kernel
theorem dL_change_20 : decode cL_change 20 = .ok (.ireturn, 1) := by decide +kernel
theorem dL_change_21 : decode cL_change 21 = .ok (.astore 6, 2) := by decide +kernel
theorem dL_change_23 : decode cL_change 23 = .ok (.iconst 2, 1) := by decide +kernel
theorem dL_change_24 : decode cL_change 24 = .ok (.ireturn, 1) := by decide +kernel
theorem dL_change_25 : decode cL_change 25 = .ok (.astore 6, 2) := by decide +kernel
theorem dL_change_27 : decode cL_change 27 = .ok (.iconst 3, 1) := by decide +kernel
theorem dL_change_28 : decode cL_change 28 = .ok (.ireturn, 1) := by decide +kernel
theorem dL_change_29 : decode cL_change 29 = .ok (.iconst 0, 1) := by decide +kernel
theorem dL_change_30 : decode cL_change 30 = .ok (.ireturn, 1) := by decide +kernel
theorem dL_make_0 : decode cL_make 0 = .ok (.aload_n 3, 1) := by decide +kernel
theorem dL_make_1 : decode cL_make 1 = .ok (.iconst 0, 1) := by decide +kernel
theorem dL_make_2 : decode cL_make 2 = .ok (.aload_n 0, 1) := by decide +kernel
theorem dL_make_3 : decode cL_make 3 = .ok (.iload_n 1, 1) := by decide +kernel
theorem dL_make_4 : decode cL_make 4 = .ok (.iload_n 2, 1) := by decide +kernel
theorem dL_make_5 : decode cL_make 5 = .ok (.invokevirtual 59, 3) := by decide +kernel
theorem dL_make_8 : decode cL_make 8 = .ok (.i2l, 1) := by decide +kernel
theorem dL_make_9 : decode cL_make 9 = .ok (.lastore, 1) := by decide +kernel
theorem dL_make_10 : decode cL_make 10 = .ok (.goto 11, 3) := by decide +kernel
theorem dL_make_13 : decode cL_make 13 = .ok (.astore 4, 2) := by decide +kernel
theorem dL_make_15 : decode cL_make 15 = .ok (.iconst 1, 1) := by decide +kernel
theorem dL_make_16 : decode cL_make 16 = .ok (.ireturn, 1) := by decide +kernel
theorem dL_make_17 : decode cL_make 17 = .ok (.astore 4, 2) := by decide +kernel
theorem dL_make_19 : decode cL_make 19 = .ok (.iconst 2, 1) := by decide +kernel
theorem dL_make_20 : decode cL_make 20 = .ok (.ireturn, 1) := by decide +kernel
theorem dL_make_21 : decode cL_make 21 = .ok (.iconst 0, 1) := by decide +kernel
theorem dL_make_22 : decode cL_make 22 = .ok (.ireturn, 1) := by decide +kernel
theorem dL_numberOf_0 : decode cL_numberOf 0 = .ok (.aload_n 3, 1) := by decide +kernel
theorem dL_numberOf_1 : decode cL_numberOf 1 = .ok (.iconst 0, 1) := by decide +kernel
theorem dL_numberOf_2 : decode cL_numberOf 2 = .ok (.aload_n 0, 1) := by decide +kernel
theorem dL_numberOf_3 : decode cL_numberOf 3 = .ok (.iload_n 1, 1) := by decide +kernel
theorem dL_numberOf_4 : decode cL_numberOf 4 = .ok (.iload_n 2, 1) := by decide +kernel
theorem dL_numberOf_5 : decode cL_numberOf 5 = .ok (.invokevirtual 62, 3) := by decide +kernel
theorem dL_numberOf_8 : decode cL_numberOf 8 = .ok (.i2l, 1) := by decide +kernel
theorem dL_numberOf_9 : decode cL_numberOf 9 = .ok (.lastore, 1) := by decide +kernel
theorem dL_numberOf_10 : decode cL_numberOf 10 = .ok (.goto 11, 3) := by decide +kernel
theorem dL_numberOf_13 : decode cL_numberOf 13 = .ok (.astore 4, 2) := by decide +kernel
theorem dL_numberOf_15 : decode cL_numberOf 15 = .ok (.iconst 1, 1) := by decide +kernel
theorem dL_numberOf_16 : decode cL_numberOf 16 = .ok (.ireturn, 1) := by decide +kernel
theorem dL_numberOf_17 : decode cL_numberOf 17 = .ok (.astore 4, 2) := by decide +kernel
theorem dL_numberOf_19 : decode cL_numberOf 19 = .ok (.iconst 2, 1) := by decide +kernel
theorem dL_numberOf_20 : decode cL_numberOf 20 = .ok (.ireturn, 1) := by decide +kernel
theorem dL_numberOf_21 : decode cL_numberOf 21 = .ok (.iconst 0, 1) := by decide +kernel
theorem dL_numberOf_22 : decode cL_numberOf 22 = .ok (.ireturn, 1) := by decide +kernel
theorem dL_send_0 : decode cL_send 0 = .ok (.aload_n 3, 1) := by decide +kernel
theorem dL_send_1 : decode cL_send 1 = .ok (.iconst 0, 1) := by decide +kernel
theorem dL_send_2 : decode cL_send 2 = .ok (.aload_n 0, 1) := by decide +kernel
theorem dL_send_3 : decode cL_send 3 = .ok (.iload_n 1, 1) := by decide +kernel
theorem dL_send_4 : decode cL_send 4 = .ok (.iload_n 2, 1) := by decide +kernel
theorem dL_send_5 : decode cL_send 5 = .ok (.invokevirtual 65, 3) := by decide +kernel
theorem dL_send_8 : decode cL_send 8 = .ok (.i2l, 1) := by decide +kernel
theorem dL_send_9 : decode cL_send 9 = .ok (.lastore, 1) := by decide +kernel
theorem dL_send_10 : decode cL_send 10 = .ok (.goto 11, 3) := by decide +kernel
theorem dL_send_13 : decode cL_send 13 = .ok (.astore 4, 2) := by decide +kernel
theorem dL_send_15 : decode cL_send 15 = .ok (.iconst 1, 1) := by decide +kernel
theorem dL_send_16 : decode cL_send 16 = .ok (.ireturn, 1) := by decide +kernel
theorem dL_send_17 : decode cL_send 17 = .ok (.astore 4, 2) := by decide +kernel
theorem dL_send_19 : decode cL_send 19 = .ok (.iconst 2, 1) := by decide +kernel
theorem dL_send_20 : decode cL_send 20 = .ok (.ireturn, 1) := by decide +kernel
theorem dL_send_21 : decode cL_send 21 = .ok (.iconst 0, 1) := by decide +kernel
theorem dL_send_22 : decode cL_send 22 = .ok (.ireturn, 1) := by decide +kernel
theorem dL_waiting_0 : decode cL_waiting 0 = .ok (.aload_n 2, 1) := by decide +kernel
theorem dL_waiting_1 : decode cL_waiting 1 = .ok (.iconst 0, 1) := by decide +kernel
theorem dL_waiting_2 : decode cL_waiting 2 = .ok (.aload_n 0, 1) := by decide +kernel
theorem dL_waiting_3 : decode cL_waiting 3 = .ok (.iload_n 1, 1) := by decide +kernel
theorem dL_waiting_4 : decode cL_waiting 4 = .ok (.invokevirtual 68, 3) := by decide +kernel
theorem dL_waiting_7 : decode cL_waiting 7 = .ok (.i2l, 1) := by decide +kernel
theorem dL_waiting_8 : decode cL_waiting 8 = .ok (.lastore, 1) := by decide +kernel
theorem dL_waiting_9 : decode cL_waiting 9 = .ok (.goto 6, 3) := by decide +kernel
theorem dL_waiting_12 : decode cL_waiting 12 = .ok (.astore_n 3, 1) := by decide +kernel
theorem dL_waiting_13 : decode cL_waiting 13 = .ok (.iconst 1, 1) := by decide +kernel
theorem dL_waiting_14 : decode cL_waiting 14 = .ok (.ireturn, 1) := by decide +kernel
theorem dL_waiting_15 : decode cL_waiting 15 = .ok (.iconst 0, 1) := by decide +kernel
theorem dL_waiting_16 : decode cL_waiting 16 = .ok (.ireturn, 1) := by decide +kernel
theorem dL_pile_0 : decode cL_pile 0 = .ok (.aload_n 2, 1) := by decide +kernel
theorem dL_pile_1 : decode cL_pile 1 = .ok (.iconst 0, 1) := by decide +kernel
theorem dL_pile_2 : decode cL_pile 2 = .ok (.aload_n 0, 1) := by decide +kernel
theorem dL_pile_3 : decode cL_pile 3 = .ok (.iload_n 1, 1) := by decide +kernel
theorem dL_pile_4 : decode cL_pile 4 = .ok (.invokevirtual 71, 3) := by decide +kernel
theorem dL_pile_7 : decode cL_pile 7 = .ok (.i2l, 1) := by decide +kernel
theorem dL_pile_8 : decode cL_pile 8 = .ok (.lastore, 1) := by decide +kernel
theorem dL_pile_9 : decode cL_pile 9 = .ok (.goto 6, 3) := by decide +kernel
theorem dL_pile_12 : decode cL_pile 12 = .ok (.astore_n 3, 1) := by decide +kernel
theorem dL_pile_13 : decode cL_pile 13 = .ok (.iconst 1, 1) := by decide +kernel
theorem dL_pile_14 : decode cL_pile 14 = .ok (.ireturn, 1) := by decide +kernel
theorem dL_pile_15 : decode cL_pile 15 = .ok (.iconst 0, 1) := by decide +kernel
theorem dL_pile_16 : decode cL_pile 16 = .ok (.ireturn, 1) := by decide +kernel
theorem dL_reason_0 : decode cL_reason 0 = .ok (.aload_n 3, 1) := by decide +kernel
theorem dL_reason_1 : decode cL_reason 1 = .ok (.iconst 0, 1) := by decide +kernel
theorem dL_reason_2 : decode cL_reason 2 = .ok (.aload_n 0, 1) := by decide +kernel
theorem dL_reason_3 : decode cL_reason 3 = .ok (.iload_n 1, 1) := by decide +kernel
theorem dL_reason_4 : decode cL_reason 4 = .ok (.iload_n 2, 1) := by decide +kernel
theorem dL_reason_5 : decode cL_reason 5 = .ok (.invokevirtual 74, 3) := by decide +kernel
theorem dL_reason_8 : decode cL_reason 8 = .ok (.i2l, 1) := by decide +kernel
theorem dL_reason_9 : decode cL_reason 9 = .ok (.lastore, 1) := by decide +kernel
theorem dL_reason_10 : decode cL_reason 10 = .ok (.goto 7, 3) := by decide +kernel
theorem dL_reason_13 : decode cL_reason 13 = .ok (.astore 4, 2) := by decide +kernel
theorem dL_reason_15 : decode cL_reason 15 = .ok (.iconst 1, 1) := by decide +kernel
theorem dL_reason_16 : decode cL_reason 16 = .ok (.ireturn, 1) := by decide +kernel
theorem dL_reason_17 : decode cL_reason 17 = .ok (.iconst 0, 1) := by decide +kernel
theorem dL_reason_18 : decode cL_reason 18 = .ok (.ireturn, 1) := by decide +kernel
theorem dL_refusedValue_0 : decode cL_refusedValue 0 = .ok (.aload_n 3, 1) := by decide +kernel
theorem dL_refusedValue_1 : decode cL_refusedValue 1 = .ok (.iconst 0, 1) := by decide +kernel
theorem dL_refusedValue_2 : decode cL_refusedValue 2 = .ok (.aload_n 0, 1) := by decide +kernel
theorem dL_refusedValue_3 : decode cL_refusedValue 3 = .ok (.iload_n 1, 1) := by decide +kernel
theorem dL_refusedValue_4 : decode cL_refusedValue 4 = .ok (.iload_n 2, 1) := by decide +kernel
theorem dL_refusedValue_5 : decode cL_refusedValue 5 = .ok (.invokevirtual 77, 3) := by decide +kernel
theorem dL_refusedValue_8 : decode cL_refusedValue 8 = .ok (.i2l, 1) := by decide +kernel
theorem dL_refusedValue_9 : decode cL_refusedValue 9 = .ok (.lastore, 1) := by decide +kernel
theorem dL_refusedValue_10 : decode cL_refusedValue 10 = .ok (.goto 7, 3) := by decide +kernel
theorem dL_refusedValue_13 : decode cL_refusedValue 13 = .ok (.astore 4, 2) := by decide +kernel
theorem dL_refusedValue_15 : decode cL_refusedValue 15 = .ok (.iconst 1, 1) := by decide +kernel
theorem dL_refusedValue_16 : decode cL_refusedValue 16 = .ok (.ireturn, 1) := by decide +kernel
theorem dL_refusedValue_17 : decode cL_refusedValue 17 = .ok (.iconst 0, 1) := by decide +kernel
theorem dL_refusedValue_18 : decode cL_refusedValue 18 = .ok (.ireturn, 1) := by decide +kernel
