theorem dX0_init_0 : decode cX0_init 0 = .ok (.aload_n 0, 1) := by decide +kernel
theorem dX0_init_1 : decode cX0_init 1 = .ok (.invokespecial 3, 3) := by decide +kernel
theorem dX0_init_4 : decode cX0_init 4 = .ok (.aload_n 0, 1) := by decide +kernel
theorem dX0_init_5 : decode cX0_init 5 = .ok (.iload_n 1, 1) := by decide +kernel
theorem dX0_init_6 : decode cX0_init 6 = .ok (.putfield 9, 3) := by decide +kernel
theorem dX0_init_9 : decode cX0_init 9 = .ok (.aload_n 0, 1) := by decide +kernel
theorem dX0_init_10 : decode cX0_init 10 = .ok (.iload_n 2, 1) := by decide +kernel
theorem dX0_init_11 : decode cX0_init 11 = .ok (.putfield 15, 3) := by decide +kernel
theorem dX0_init_14 : decode cX0_init 14 = .ok (.aload_n 0, 1) := by decide +kernel
theorem dX0_init_15 : decode cX0_init 15 = .ok (.aload_n 3, 1) := by decide +kernel
theorem dX0_init_16 : decode cX0_init 16 = .ok (.putfield 18, 3) := by decide +kernel
theorem dX0_init_19 : decode cX0_init 19 = .ok (.aload_n 0, 1) := by decide +kernel
theorem dX0_init_20 : decode cX0_init 20 = .ok (.aload 4, 2) := by decide +kernel
theorem dX0_init_22 : decode cX0_init 22 = .ok (.putfield 22, 3) := by decide +kernel
theorem dX0_init_25 : decode cX0_init 25 = .ok (.aload_n 0, 1) := by decide +kernel
theorem dX0_init_26 : decode cX0_init 26 = .ok (.new 25, 3) := by decide +kernel
theorem dX0_init_29 : decode cX0_init 29 = .ok (.dup, 1) := by decide +kernel
theorem dX0_init_30 : decode cX0_init 30 = .ok (.invokespecial 27, 3) := by decide +kernel
theorem dX0_init_33 : decode cX0_init 33 = .ok (.putfield 28, 3) := by decide +kernel
theorem dX0_init_36 : decode cX0_init 36 = .ok (.return_, 1) := by decide +kernel
theorem dX0_comesFrom_0 : decode cX0_comesFrom 0 = .ok (.aload_n 0, 1) := by decide +kernel
theorem dX0_comesFrom_1 : decode cX0_comesFrom 1 = .ok (.getfield 9, 3) := by decide +kernel
theorem dX0_comesFrom_4 : decode cX0_comesFrom 4 = .ok (.iload_n 1, 1) := by decide +kernel
theorem dX0_comesFrom_5 : decode cX0_comesFrom 5 = .ok (.ishr, 1) := by decide +kernel
theorem dX0_comesFrom_6 : decode cX0_comesFrom 6 = .ok (.iconst 1, 1) := by decide +kernel
theorem dX0_comesFrom_7 : decode cX0_comesFrom 7 = .ok (.iand, 1) := by decide +kernel
theorem dX0_comesFrom_8 : decode cX0_comesFrom 8 = .ok (.iconst 1, 1) := by decide +kernel
theorem dX0_comesFrom_9 : decode cX0_comesFrom 9 = .ok (.if_icmp .ne 7, 3) := by decide +kernel
theorem dX0_comesFrom_12 : decode cX0_comesFrom 12 = .ok (.iconst 1, 1) := by decide +kernel
theorem dX0_comesFrom_13 : decode cX0_comesFrom 13 = .ok (.goto 4, 3) := by decide +kernel
theorem dX0_comesFrom_16 : decode cX0_comesFrom 16 = .ok (.iconst 0, 1) := by decide +kernel
theorem dX0_comesFrom_17 : decode cX0_comesFrom 17 = .ok (.ireturn, 1) := by decide +kernel
theorem dX0_isMadeOfGone_0 : decode cX0_isMadeOfGone 0 = .ok (.aload_n 0, 1) := by decide +kernel
theorem dX0_isMadeOfGone_1 : decode cX0_isMadeOfGone 1 = .ok (.getfield 18, 3) := by decide +kernel
theorem dX0_isMadeOfGone_4 : decode cX0_isMadeOfGone 4 = .ok (.ifnull 13, 3) := by decide +kernel
theorem dX0_isMadeOfGone_7 : decode cX0_isMadeOfGone 7 = .ok (.aload_n 0, 1) := by decide +kernel
theorem dX0_isMadeOfGone_8 : decode cX0_isMadeOfGone 8 = .ok (.getfield 18, 3) := by decide +kernel
theorem dX0_isMadeOfGone_11 : decode cX0_isMadeOfGone 11 = .ok (.getfield 32, 3) := by decide +kernel
theorem dX0_isMadeOfGone_14 : decode cX0_isMadeOfGone 14 = .ok (.ifCond .ne 20, 3) := by decide +kernel
theorem dX0_isMadeOfGone_17 : decode cX0_isMadeOfGone 17 = .ok (.aload_n 0, 1) := by decide +kernel
theorem dX0_isMadeOfGone_18 : decode cX0_isMadeOfGone 18 = .ok (.getfield 22, 3) := by decide +kernel
theorem dX0_isMadeOfGone_21 : decode cX0_isMadeOfGone 21 = .ok (.ifnull 17, 3) := by decide +kernel
theorem dX0_isMadeOfGone_24 : decode cX0_isMadeOfGone 24 = .ok (.aload_n 0, 1) := by decide +kernel
theorem dX0_isMadeOfGone_25 : decode cX0_isMadeOfGone 25 = .ok (.getfield 22, 3) := by decide +kernel
theorem dX0_isMadeOfGone_28 : decode cX0_isMadeOfGone 28 = .ok (.getfield 32, 3) := by decide +kernel
theorem dX0_isMadeOfGone_31 : decode cX0_isMadeOfGone 31 = .ok (.ifCond .eq 7, 3) := by decide +kernel
theorem dX0_isMadeOfGone_34 : decode cX0_isMadeOfGone 34 = .ok (.iconst 1, 1) := by decide +kernel
theorem dX0_isMadeOfGone_35 : decode cX0_isMadeOfGone 35 = .ok (.goto 4, 3) := by decide +kernel
theorem dX0_isMadeOfGone_38 : decode cX0_isMadeOfGone 38 = .ok (.iconst 0, 1) := by decide +kernel
theorem dX0_isMadeOfGone_39 : decode cX0_isMadeOfGone 39 = .ok (.ireturn, 1) := by decide +kernel
theorem dX0_countMarks_0 : decode cX0_countMarks 0 = .ok (.iconst 0, 1) := by decide +kernel
theorem dX0_countMarks_1 : decode cX0_countMarks 1 = .ok (.istore_n 3, 1) := by decide +kernel
theorem dX0_countMarks_2 : decode cX0_countMarks 2 = .ok (.iconst 0, 1) := by decide +kernel
theorem dX0_countMarks_3 : decode cX0_countMarks 3 = .ok (.istore 4, 2) := by decide +kernel
theorem dX0_countMarks_5 : decode cX0_countMarks 5 = .ok (.iload 4, 2) := by decide +kernel
theorem dX0_countMarks_7 : decode cX0_countMarks 7 = .ok (.aload_n 0, 1) := by decide +kernel
theorem dX0_countMarks_8 : decode cX0_countMarks 8 = .ok (.getfield 28, 3) := by decide +kernel
theorem dX0_countMarks_11 : decode cX0_countMarks 11 = .ok (.invokevirtual 36, 3) := by decide +kernel
theorem dX0_countMarks_14 : decode cX0_countMarks 14 = .ok (.if_icmp .ge 32, 3) := by decide +kernel
theorem dX0_countMarks_17 : decode cX0_countMarks 17 = .ok (.aload_n 0, 1) := by decide +kernel
theorem dX0_countMarks_18 : decode cX0_countMarks 18 = .ok (.getfield 28, 3) := by decide +kernel
theorem dX0_countMarks_21 : decode cX0_countMarks 21 = .ok (.iload 4, 2) := by decide +kernel
theorem dX0_countMarks_23 : decode cX0_countMarks 23 = .ok (.invokevirtual 40, 3) := by decide +kernel
theorem dX0_countMarks_26 : decode cX0_countMarks 26 = .ok (.checkcast 44, 3) := by decide +kernel
theorem dX0_countMarks_29 : decode cX0_countMarks 29 = .ok (.iload_n 1, 1) := by decide +kernel
theorem dX0_countMarks_30 : decode cX0_countMarks 30 = .ok (.iload_n 2, 1) := by decide +kernel
theorem dX0_countMarks_31 : decode cX0_countMarks 31 = .ok (.invokevirtual 46, 3) := by decide +kernel
theorem dX0_countMarks_34 : decode cX0_countMarks 34 = .ok (.ifCond .eq 6, 3) := by decide +kernel
theorem dX0_countMarks_37 : decode cX0_countMarks 37 = .ok (.iinc 3 1, 3) := by decide +kernel
theorem dX0_countMarks_40 : decode cX0_countMarks 40 = .ok (.iinc 4 1, 3) := by decide +kernel
theorem dX0_countMarks_43 : decode cX0_countMarks 43 = .ok (.goto (-38), 3) := by decide +kernel
theorem dX0_countMarks_46 : decode cX0_countMarks 46 = .ok (.iload_n 3, 1) := by decide +kernel
theorem dX0_countMarks_47 : decode cX0_countMarks 47 = .ok (.ireturn, 1) := by decide +kernel
theorem dX0_hasMarkWithin_0 : decode cX0_hasMarkWithin 0 = .ok (.iconst 0, 1) := by decide +kernel
theorem dX0_hasMarkWithin_1 : decode cX0_hasMarkWithin 1 = .ok (.istore 5, 2) := by decide +kernel
theorem dX0_hasMarkWithin_3 : decode cX0_hasMarkWithin 3 = .ok (.iload 5, 2) := by decide +kernel
theorem dX0_hasMarkWithin_5 : decode cX0_hasMarkWithin 5 = .ok (.aload_n 0, 1) := by decide +kernel
theorem dX0_hasMarkWithin_6 : decode cX0_hasMarkWithin 6 = .ok (.getfield 28, 3) := by decide +kernel
theorem dX0_hasMarkWithin_9 : decode cX0_hasMarkWithin 9 = .ok (.invokevirtual 36, 3) := by decide +kernel
theorem dX0_hasMarkWithin_12 : decode cX0_hasMarkWithin 12 = .ok (.if_icmp .ge 54, 3) := by decide +kernel
theorem dX0_hasMarkWithin_15 : decode cX0_hasMarkWithin 15 = .ok (.aload_n 0, 1) := by decide +kernel
theorem dX0_hasMarkWithin_16 : decode cX0_hasMarkWithin 16 = .ok (.getfield 28, 3) := by decide +kernel
theorem dX0_hasMarkWithin_19 : decode cX0_hasMarkWithin 19 = .ok (.iload 5, 2) := by decide +kernel
theorem dX0_hasMarkWithin_21 : decode cX0_hasMarkWithin 21 = .ok (.invokevirtual 40, 3) := by decide +kernel
theorem dX0_hasMarkWithin_24 : decode cX0_hasMarkWithin 24 = .ok (.checkcast 44, 3) := by decide +kernel
theorem dX0_hasMarkWithin_27 : decode cX0_hasMarkWithin 27 = .ok (.astore 6, 2) := by decide +kernel
theorem dX0_hasMarkWithin_29 : decode cX0_hasMarkWithin 29 = .ok (.aload 6, 2) := by decide +kernel
theorem dX0_hasMarkWithin_31 : decode cX0_hasMarkWithin 31 = .ok (.iload_n 1, 1) := by decide +kernel
theorem dX0_hasMarkWithin_32 : decode cX0_hasMarkWithin 32 = .ok (.iload_n 2, 1) := by decide +kernel
theorem dX0_hasMarkWithin_33 : decode cX0_hasMarkWithin 33 = .ok (.invokevirtual 46, 3) := by decide +kernel
theorem dX0_hasMarkWithin_36 : decode cX0_hasMarkWithin 36 = .ok (.ifCond .eq 24, 3) := by decide +kernel
theorem dX0_hasMarkWithin_39 : decode cX0_hasMarkWithin 39 = .ok (.aload 6, 2) := by decide +kernel
theorem dX0_hasMarkWithin_41 : decode cX0_hasMarkWithin 41 = .ok (.getfield 50, 3) := by decide +kernel
theorem dX0_hasMarkWithin_44 : decode cX0_hasMarkWithin 44 = .ok (.iload 4, 2) := by decide +kernel
theorem dX0_hasMarkWithin_46 : decode cX0_hasMarkWithin 46 = .ok (.if_icmp .ge 14, 3) := by decide +kernel
theorem dX0_hasMarkWithin_49 : decode cX0_hasMarkWithin 49 = .ok (.iload_n 3, 1) := by decide +kernel
theorem dX0_hasMarkWithin_50 : decode cX0_hasMarkWithin 50 = .ok (.aload 6, 2) := by decide +kernel
theorem dX0_hasMarkWithin_52 : decode cX0_hasMarkWithin 52 = .ok (.getfield 53, 3) := by decide +kernel
theorem dX0_hasMarkWithin_55 : decode cX0_hasMarkWithin 55 = .ok (.if_icmp .ge 5, 3) := by decide +kernel
theorem dX0_hasMarkWithin_58 : decode cX0_hasMarkWithin 58 = .ok (.iconst 1, 1) := by decide +kernel
theorem dX0_hasMarkWithin_59 : decode cX0_hasMarkWithin 59 = .ok (.ireturn, 1) := by decide +kernel
theorem dX0_hasMarkWithin_60 : decode cX0_hasMarkWithin 60 = .ok (.iinc 5 1, 3) := by decide +kernel
theorem dX0_hasMarkWithin_63 : decode cX0_hasMarkWithin 63 = .ok (.goto (-60), 3) := by decide +kernel
theorem dX0_hasMarkWithin_66 : decode cX0_hasMarkWithin 66 = .ok (.iconst 0, 1) := by decide +kernel
theorem dX0_hasMarkWithin_67 : decode cX0_hasMarkWithin 67 = .ok (.ireturn, 1) := by decide +kernel
theorem dX0_writeValues_0 : decode cX0_writeValues 0 = .ok (.iconst 0, 1) := by decide +kernel
theorem dX0_writeValues_1 : decode cX0_writeValues 1 = .ok (.istore 4, 2) := by decide +kernel
theorem dX0_writeValues_3 : decode cX0_writeValues 3 = .ok (.iload 4, 2) := by decide +kernel
theorem dX0_writeValues_5 : decode cX0_writeValues 5 = .ok (.aload_n 3, 1) := by decide +kernel
theorem dX0_writeValues_6 : decode cX0_writeValues 6 = .ok (.arraylength, 1) := by decide +kernel
theorem dX0_writeValues_7 : decode cX0_writeValues 7 = .ok (.if_icmp .ge 14, 3) := by decide +kernel
theorem dX0_writeValues_10 : decode cX0_writeValues 10 = .ok (.aload_n 3, 1) := by decide +kernel
theorem dX0_writeValues_11 : decode cX0_writeValues 11 = .ok (.iload 4, 2) := by decide +kernel
theorem dX0_writeValues_13 : decode cX0_writeValues 13 = .ok (.iconst (-1), 1) := by decide +kernel
theorem dX0_writeValues_14 : decode cX0_writeValues 14 = .ok (.iastore, 1) := by decide +kernel
theorem dX0_writeValues_15 : decode cX0_writeValues 15 = .ok (.iinc 4 1, 3) := by decide +kernel
theorem dX0_writeValues_18 : decode cX0_writeValues 18 = .ok (.goto (-15), 3) := by decide +kernel
theorem dX0_writeValues_21 : decode cX0_writeValues 21 = .ok (.iconst 0, 1) := by decide +kernel
theorem dX0_writeValues_22 : decode cX0_writeValues 22 = .ok (.istore 4, 2) := by decide +kernel
theorem dX0_writeValues_24 : decode cX0_writeValues 24 = .ok (.iload 4, 2) := by decide +kernel
theorem dX0_writeValues_26 : decode cX0_writeValues 26 = .ok (.aload_n 0, 1) := by decide +kernel
theorem dX0_writeValues_27 : decode cX0_writeValues 27 = .ok (.getfield 28, 3) := by decide +kernel
theorem dX0_writeValues_30 : decode cX0_writeValues 30 = .ok (.invokevirtual 36, 3) := by decide +kernel
theorem dX0_writeValues_33 : decode cX0_writeValues 33 = .ok (.if_icmp .ge 45, 3) := by decide +kernel
theorem dX0_writeValues_36 : decode cX0_writeValues 36 = .ok (.aload_n 0, 1) := by decide +kernel
theorem dX0_writeValues_37 : decode cX0_writeValues 37 = .ok (.getfield 28, 3) := by decide +kernel
theorem dX0_writeValues_40 : decode cX0_writeValues 40 = .ok (.iload 4, 2) := by decide +kernel
theorem dX0_writeValues_42 : decode cX0_writeValues 42 = .ok (.invokevirtual 40, 3) := by decide +kernel
theorem dX0_writeValues_45 : decode cX0_writeValues 45 = .ok (.checkcast 44, 3) := by decide +kernel
theorem dX0_writeValues_48 : decode cX0_writeValues 48 = .ok (.iload_n 1, 1) := by decide +kernel
theorem dX0_writeValues_49 : decode cX0_writeValues 49 = .ok (.iload_n 2, 1) := by decide +kernel
theorem dX0_writeValues_50 : decode cX0_writeValues 50 = .ok (.invokevirtual 46, 3) := by decide +kernel
theorem dX0_writeValues_53 : decode cX0_writeValues 53 = .ok (.ifCond .eq 19, 3) := by decide +kernel
theorem dX0_writeValues_56 : decode cX0_writeValues 56 = .ok (.aload_n 0, 1) := by decide +kernel
theorem dX0_writeValues_57 : decode cX0_writeValues 57 = .ok (.getfield 28, 3) := by decide +kernel
theorem dX0_writeValues_60 : decode cX0_writeValues 60 = .ok (.iload 4, 2) := by decide +kernel
theorem dX0_writeValues_62 : decode cX0_writeValues 62 = .ok (.invokevirtual 40, 3) := by decide +kernel
theorem dX0_writeValues_65 : decode cX0_writeValues 65 = .ok (.checkcast 44, 3) := by decide +kernel
theorem dX0_writeValues_68 : decode cX0_writeValues 68 = .ok (.aload_n 3, 1) := by decide +kernel
theorem dX0_writeValues_69 : decode cX0_writeValues 69 = .ok (.invokevirtual 56, 3) := by decide +kernel
theorem dX0_writeValues_72 : decode cX0_writeValues 72 = .ok (.iinc 4 1, 3) := by decide +kernel
theorem dX0_writeValues_75 : decode cX0_writeValues 75 = .ok (.goto (-51), 3) := by decide +kernel
theorem dX0_writeValues_78 : decode cX0_writeValues 78 = .ok (.return_, 1) := by decide +kernel
theorem dX1_init_0 : decode cX1_init 0 = .ok (.aload_n 0, 1) := by decide +kernel
theorem dX1_init_1 : decode cX1_init 1 = .ok (.invokespecial 3, 3) := by decide +kernel
theorem dX1_init_4 : decode cX1_init 4 = .ok (.aload_n 0, 1) := by decide +kernel
theorem dX1_init_5 : decode cX1_init 5 = .ok (.iload_n 1, 1) := by decide +kernel
theorem dX1_init_6 : decode cX1_init 6 = .ok (.putfield 9, 3) := by decide +kernel
theorem dX1_init_9 : decode cX1_init 9 = .ok (.aload_n 0, 1) := by decide +kernel
theorem dX1_init_10 : decode cX1_init 10 = .ok (.iload_n 2, 1) := by decide +kernel
theorem dX1_init_11 : decode cX1_init 11 = .ok (.putfield 15, 3) := by decide +kernel
theorem dX1_init_14 : decode cX1_init 14 = .ok (.aload_n 0, 1) := by decide +kernel
theorem dX1_init_15 : decode cX1_init 15 = .ok (.iload_n 3, 1) := by decide +kernel
theorem dX1_init_16 : decode cX1_init 16 = .ok (.putfield 18, 3) := by decide +kernel
theorem dX1_init_19 : decode cX1_init 19 = .ok (.aload_n 0, 1) := by decide +kernel
theorem dX1_init_20 : decode cX1_init 20 = .ok (.iload 4, 2) := by decide +kernel
theorem dX1_init_22 : decode cX1_init 22 = .ok (.putfield 21, 3) := by decide +kernel
theorem dX1_init_25 : decode cX1_init 25 = .ok (.aload_n 0, 1) := by decide +kernel
theorem dX1_init_26 : decode cX1_init 26 = .ok (.iload 5, 2) := by decide +kernel
theorem dX1_init_28 : decode cX1_init 28 = .ok (.putfield 24, 3) := by decide +kernel
theorem dX1_init_31 : decode cX1_init 31 = .ok (.aload_n 0, 1) := by decide +kernel
theorem dX1_init_32 : decode cX1_init 32 = .ok (.iload 6, 2) := by decide +kernel
theorem dX1_init_34 : decode cX1_init 34 = .ok (.putfield 27, 3) := by decide +kernel
theorem dX1_init_37 : decode cX1_init 37 = .ok (.aload_n 0, 1) := by decide +kernel
theorem dX1_init_38 : decode cX1_init 38 = .ok (.iload 6, 2) := by decide +kernel
theorem dX1_init_40 : decode cX1_init 40 = .ok (.iconst 2, 1) := by decide +kernel
theorem dX1_init_41 : decode cX1_init 41 = .ok (.if_icmp .ne 8, 3) := by decide +kernel
theorem dX1_init_44 : decode cX1_init 44 = .ok (.iload 7, 2) := by decide +kernel
theorem dX1_init_46 : decode cX1_init 46 = .ok (.goto 4, 3) := by decide +kernel
theorem dX1_init_49 : decode cX1_init 49 = .ok (.iconst (-1), 1) := by decide +kernel
theorem dX1_init_50 : decode cX1_init 50 = .ok (.putfield 30, 3) := by decide +kernel
theorem dX1_init_53 : decode cX1_init 53 = .ok (.return_, 1) := by decide +kernel
theorem dX1_become_0 : decode cX1_become 0 = .ok (.aload_n 0, 1) := by decide +kernel
theorem dX1_become_1 : decode cX1_become 1 = .ok (.aload_n 1, 1) := by decide +kernel
theorem dX1_become_2 : decode cX1_become 2 = .ok (.getfield 9, 3) := by decide +kernel
theorem dX1_become_5 : decode cX1_become 5 = .ok (.putfield 9, 3) := by decide +kernel
theorem dX1_become_8 : decode cX1_become 8 = .ok (.aload_n 0, 1) := by decide +kernel
theorem dX1_become_9 : decode cX1_become 9 = .ok (.aload_n 1, 1) := by decide +kernel
theorem dX1_become_10 : decode cX1_become 10 = .ok (.getfield 15, 3) := by decide +kernel
theorem dX1_become_13 : decode cX1_become 13 = .ok (.putfield 15, 3) := by decide +kernel
theorem dX1_become_16 : decode cX1_become 16 = .ok (.aload_n 0, 1) := by decide +kernel
theorem dX1_become_17 : decode cX1_become 17 = .ok (.aload_n 1, 1) := by decide +kernel
theorem dX1_become_18 : decode cX1_become 18 = .ok (.getfield 18, 3) := by decide +kernel
theorem dX1_become_21 : decode cX1_become 21 = .ok (.putfield 18, 3) := by decide +kernel
theorem dX1_become_24 : decode cX1_become 24 = .ok (.aload_n 0, 1) := by decide +kernel
theorem dX1_become_25 : decode cX1_become 25 = .ok (.aload_n 1, 1) := by decide +kernel
theorem dX1_become_26 : decode cX1_become 26 = .ok (.getfield 21, 3) := by decide +kernel
theorem dX1_become_29 : decode cX1_become 29 = .ok (.putfield 21, 3) := by decide +kernel
theorem dX1_become_32 : decode cX1_become 32 = .ok (.aload_n 0, 1) := by decide +kernel
theorem dX1_become_33 : decode cX1_become 33 = .ok (.aload_n 1, 1) := by decide +kernel
theorem dX1_become_34 : decode cX1_become 34 = .ok (.getfield 24, 3) := by decide +kernel
theorem dX1_become_37 : decode cX1_become 37 = .ok (.putfield 24, 3) := by decide +kernel
theorem dX1_become_40 : decode cX1_become 40 = .ok (.aload_n 0, 1) := by decide +kernel
theorem dX1_become_41 : decode cX1_become 41 = .ok (.aload_n 1, 1) := by decide +kernel
theorem dX1_become_42 : decode cX1_become 42 = .ok (.getfield 27, 3) := by decide +kernel
theorem dX1_become_45 : decode cX1_become 45 = .ok (.putfield 27, 3) := by decide +kernel
theorem dX1_become_48 : decode cX1_become 48 = .ok (.aload_n 0, 1) := by decide +kernel
theorem dX1_become_49 : decode cX1_become 49 = .ok (.aload_n 1, 1) := by decide +kernel
theorem dX1_become_50 : decode cX1_become 50 = .ok (.getfield 30, 3) := by decide +kernel
theorem dX1_become_53 : decode cX1_become 53 = .ok (.putfield 30, 3) := by decide +kernel
theorem dX1_become_56 : decode cX1_become 56 = .ok (.return_, 1) := by decide +kernel
theorem dX1_countUnlike_0 : decode cX1_countUnlike 0 = .ok (.iconst 0, 1) := by decide +kernel
theorem dX1_countUnlike_1 : decode cX1_countUnlike 1 = .ok (.istore_n 2, 1) := by decide +kernel
theorem dX1_countUnlike_2 : decode cX1_countUnlike 2 = .ok (.iload_n 2, 1) := by decide +kernel
theorem dX1_countUnlike_3 : decode cX1_countUnlike 3 = .ok (.aload_n 0, 1) := by decide +kernel
theorem dX1_countUnlike_4 : decode cX1_countUnlike 4 = .ok (.getfield 9, 3) := by decide +kernel
theorem dX1_countUnlike_7 : decode cX1_countUnlike 7 = .ok (.aload_n 1, 1) := by decide +kernel
theorem dX1_countUnlike_8 : decode cX1_countUnlike 8 = .ok (.getfield 9, 3) := by decide +kernel
theorem dX1_countUnlike_11 : decode cX1_countUnlike 11 = .ok (.if_icmp .ne 7, 3) := by decide +kernel
theorem dX1_countUnlike_14 : decode cX1_countUnlike 14 = .ok (.iconst 0, 1) := by decide +kernel
theorem dX1_countUnlike_15 : decode cX1_countUnlike 15 = .ok (.goto 4, 3) := by decide +kernel
theorem dX1_countUnlike_18 : decode cX1_countUnlike 18 = .ok (.iconst 1, 1) := by decide +kernel
theorem dX1_countUnlike_19 : decode cX1_countUnlike 19 = .ok (.iadd, 1) := by decide +kernel
theorem dX1_countUnlike_20 : decode cX1_countUnlike 20 = .ok (.istore_n 2, 1) := by decide +kernel
theorem dX1_countUnlike_21 : decode cX1_countUnlike 21 = .ok (.iload_n 2, 1) := by decide +kernel
theorem dX1_countUnlike_22 : decode cX1_countUnlike 22 = .ok (.aload_n 0, 1) := by decide +kernel
theorem dX1_countUnlike_23 : decode cX1_countUnlike 23 = .ok (.getfield 15, 3) := by decide +kernel
theorem dX1_countUnlike_26 : decode cX1_countUnlike 26 = .ok (.aload_n 1, 1) := by decide +kernel
theorem dX1_countUnlike_27 : decode cX1_countUnlike 27 = .ok (.getfield 15, 3) := by decide +kernel
theorem dX1_countUnlike_30 : decode cX1_countUnlike 30 = .ok (.if_icmp .ne 7, 3) := by decide +kernel
theorem dX1_countUnlike_33 : decode cX1_countUnlike 33 = .ok (.iconst 0, 1) := by decide +kernel
theorem dX1_countUnlike_34 : decode cX1_countUnlike 34 = .ok (.goto 4, 3) := by decide +kernel
theorem dX1_countUnlike_37 : decode cX1_countUnlike 37 = .ok (.iconst 1, 1) := by decide +kernel
theorem dX1_countUnlike_38 : decode cX1_countUnlike 38 = .ok (.iadd, 1) := by decide +kernel
theorem dX1_countUnlike_39 : decode cX1_countUnlike 39 = .ok (.istore_n 2, 1) := by decide +kernel
theorem dX1_countUnlike_40 : decode cX1_countUnlike 40 = .ok (.iload_n 2, 1) := by decide +kernel
theorem dX1_countUnlike_41 : decode cX1_countUnlike 41 = .ok (.aload_n 0, 1) := by decide +kernel
theorem dX1_countUnlike_42 : decode cX1_countUnlike 42 = .ok (.getfield 18, 3) := by decide +kernel
theorem dX1_countUnlike_45 : decode cX1_countUnlike 45 = .ok (.aload_n 1, 1) := by decide +kernel
theorem dX1_countUnlike_46 : decode cX1_countUnlike 46 = .ok (.getfield 18, 3) := by decide +kernel
theorem dX1_countUnlike_49 : decode cX1_countUnlike 49 = .ok (.if_icmp .ne 7, 3) := by decide +kernel
theorem dX1_countUnlike_52 : decode cX1_countUnlike 52 = .ok (.iconst 0, 1) := by decide +kernel
theorem dX1_countUnlike_53 : decode cX1_countUnlike 53 = .ok (.goto 4, 3) := by decide +kernel
theorem dX1_countUnlike_56 : decode cX1_countUnlike 56 = .ok (.iconst 1, 1) := by decide +kernel
theorem dX1_countUnlike_57 : decode cX1_countUnlike 57 = .ok (.iadd, 1) := by decide +kernel
theorem dX1_countUnlike_58 : decode cX1_countUnlike 58 = .ok (.istore_n 2, 1) := by decide +kernel
theorem dX1_countUnlike_59 : decode cX1_countUnlike 59 = .ok (.iload_n 2, 1) := by decide +kernel
theorem dX1_countUnlike_60 : decode cX1_countUnlike 60 = .ok (.aload_n 0, 1) := by decide +kernel
theorem dX1_countUnlike_61 : decode cX1_countUnlike 61 = .ok (.getfield 21, 3) := by decide +kernel
theorem dX1_countUnlike_64 : decode cX1_countUnlike 64 = .ok (.aload_n 1, 1) := by decide +kernel
theorem dX1_countUnlike_65 : decode cX1_countUnlike 65 = .ok (.getfield 21, 3) := by decide +kernel
theorem dX1_countUnlike_68 : decode cX1_countUnlike 68 = .ok (.if_icmp .ne 7, 3) := by decide +kernel
theorem dX1_countUnlike_71 : decode cX1_countUnlike 71 = .ok (.iconst 0, 1) := by decide +kernel
theorem dX1_countUnlike_72 : decode cX1_countUnlike 72 = .ok (.goto 4, 3) := by decide +kernel
theorem dX1_countUnlike_75 : decode cX1_countUnlike 75 = .ok (.iconst 1, 1) := by decide +kernel
theorem dX1_countUnlike_76 : decode cX1_countUnlike 76 = .ok (.iadd, 1) := by decide +kernel
theorem dX1_countUnlike_77 : decode cX1_countUnlike 77 = .ok (.istore_n 2, 1) := by decide +kernel
theorem dX1_countUnlike_78 : decode cX1_countUnlike 78 = .ok (.iload_n 2, 1) := by decide +kernel
theorem dX1_countUnlike_79 : decode cX1_countUnlike 79 = .ok (.aload_n 0, 1) := by decide +kernel
theorem dX1_countUnlike_80 : decode cX1_countUnlike 80 = .ok (.getfield 24, 3) := by decide +kernel
theorem dX1_countUnlike_83 : decode cX1_countUnlike 83 = .ok (.aload_n 1, 1) := by decide +kernel
theorem dX1_countUnlike_84 : decode cX1_countUnlike 84 = .ok (.getfield 24, 3) := by decide +kernel
theorem dX1_countUnlike_87 : decode cX1_countUnlike 87 = .ok (.if_icmp .ne 7, 3) := by decide +kernel
theorem dX1_countUnlike_90 : decode cX1_countUnlike 90 = .ok (.iconst 0, 1) := by decide +kernel
theorem dX1_countUnlike_91 : decode cX1_countUnlike 91 = .ok (.goto 4, 3) := by decide +kernel
theorem dX1_countUnlike_94 : decode cX1_countUnlike 94 = .ok (.iconst 1, 1) := by decide +kernel
theorem dX1_countUnlike_95 : decode cX1_countUnlike 95 = .ok (.iadd, 1) := by decide +kernel
theorem dX1_countUnlike_96 : decode cX1_countUnlike 96 = .ok (.istore_n 2, 1) := by decide +kernel
theorem dX1_countUnlike_97 : decode cX1_countUnlike 97 = .ok (.iload_n 2, 1) := by decide +kernel
theorem dX1_countUnlike_98 : decode cX1_countUnlike 98 = .ok (.aload_n 0, 1) := by decide +kernel
theorem dX1_countUnlike_99 : decode cX1_countUnlike 99 = .ok (.getfield 27, 3) := by decide +kernel
theorem dX1_countUnlike_102 : decode cX1_countUnlike 102 = .ok (.aload_n 1, 1) := by decide +kernel
theorem dX1_countUnlike_103 : decode cX1_countUnlike 103 = .ok (.getfield 27, 3) := by decide +kernel
theorem dX1_countUnlike_106 : decode cX1_countUnlike 106 = .ok (.if_icmp .ne 7, 3) := by decide +kernel
theorem dX1_countUnlike_109 : decode cX1_countUnlike 109 = .ok (.iconst 0, 1) := by decide +kernel
theorem dX1_countUnlike_110 : decode cX1_countUnlike 110 = .ok (.goto 4, 3) := by decide +kernel
theorem dX1_countUnlike_113 : decode cX1_countUnlike 113 = .ok (.iconst 1, 1) := by decide +kernel
theorem dX1_countUnlike_114 : decode cX1_countUnlike 114 = .ok (.iadd, 1) := by decide +kernel
theorem dX1_countUnlike_115 : decode cX1_countUnlike 115 = .ok (.istore_n 2, 1) := by decide +kernel
theorem dX1_countUnlike_116 : decode cX1_countUnlike 116 = .ok (.iload_n 2, 1) := by decide +kernel
theorem dX1_countUnlike_117 : decode cX1_countUnlike 117 = .ok (.ireturn, 1) := by decide +kernel
theorem dX1_isJustLike_0 : decode cX1_isJustLike 0 = .ok (.aload_n 0, 1) := by decide +kernel
theorem dX1_isJustLike_1 : decode cX1_isJustLike 1 = .ok (.aload_n 1, 1) := by decide +kernel
theorem dX1_isJustLike_2 : decode cX1_isJustLike 2 = .ok (.invokevirtual 33, 3) := by decide +kernel
theorem dX1_isJustLike_5 : decode cX1_isJustLike 5 = .ok (.ifCond .ne 18, 3) := by decide +kernel
theorem dX1_isJustLike_8 : decode cX1_isJustLike 8 = .ok (.aload_n 0, 1) := by decide +kernel
theorem dX1_isJustLike_9 : decode cX1_isJustLike 9 = .ok (.getfield 30, 3) := by decide +kernel
theorem dX1_isJustLike_12 : decode cX1_isJustLike 12 = .ok (.aload_n 1, 1) := by decide +kernel
theorem dX1_isJustLike_13 : decode cX1_isJustLike 13 = .ok (.getfield 30, 3) := by decide +kernel
theorem dX1_isJustLike_16 : decode cX1_isJustLike 16 = .ok (.if_icmp .ne 7, 3) := by decide +kernel
theorem dX1_isJustLike_19 : decode cX1_isJustLike 19 = .ok (.iconst 1, 1) := by decide +kernel
theorem dX1_isJustLike_20 : decode cX1_isJustLike 20 = .ok (.goto 4, 3) := by decide +kernel
theorem dX1_isJustLike_23 : decode cX1_isJustLike 23 = .ok (.iconst 0, 1) := by decide +kernel
theorem dX1_isJustLike_24 : decode cX1_isJustLike 24 = .ok (.ireturn, 1) := by decide +kernel
theorem dX1_goes_0 : decode cX1_goes 0 = .ok (.aload_n 0, 1) := by decide +kernel
theorem dX1_goes_1 : decode cX1_goes 1 = .ok (.getfield 15, 3) := by decide +kernel
theorem dX1_goes_4 : decode cX1_goes 4 = .ok (.aload_n 0, 1) := by decide +kernel
theorem dX1_goes_5 : decode cX1_goes 5 = .ok (.getfield 18, 3) := by decide +kernel
theorem dX1_goes_8 : decode cX1_goes 8 = .ok (.if_icmp .eq 7, 3) := by decide +kernel
theorem dX1_goes_11 : decode cX1_goes 11 = .ok (.iconst 1, 1) := by decide +kernel
theorem dX1_goes_12 : decode cX1_goes 12 = .ok (.goto 4, 3) := by decide +kernel
theorem dX1_goes_15 : decode cX1_goes 15 = .ok (.iconst 0, 1) := by decide +kernel
theorem dX1_goes_16 : decode cX1_goes 16 = .ok (.ireturn, 1) := by decide +kernel
theorem dX1_isStill_0 : decode cX1_isStill 0 = .ok (.aload_n 0, 1) := by decide +kernel
theorem dX1_isStill_1 : decode cX1_isStill 1 = .ok (.invokevirtual 37, 3) := by decide +kernel
theorem dX1_isStill_4 : decode cX1_isStill 4 = .ok (.ifCond .ne 18, 3) := by decide +kernel
theorem dX1_isStill_7 : decode cX1_isStill 7 = .ok (.aload_n 0, 1) := by decide +kernel
theorem dX1_isStill_8 : decode cX1_isStill 8 = .ok (.getfield 21, 3) := by decide +kernel
theorem dX1_isStill_11 : decode cX1_isStill 11 = .ok (.aload_n 0, 1) := by decide +kernel
theorem dX1_isStill_12 : decode cX1_isStill 12 = .ok (.getfield 24, 3) := by decide +kernel
theorem dX1_isStill_15 : decode cX1_isStill 15 = .ok (.if_icmp .ne 7, 3) := by decide +kernel
theorem dX1_isStill_18 : decode cX1_isStill 18 = .ok (.iconst 1, 1) := by decide +kernel
theorem dX1_isStill_19 : decode cX1_isStill 19 = .ok (.goto 4, 3) := by decide +kernel
theorem dX1_isStill_22 : decode cX1_isStill 22 = .ok (.iconst 0, 1) := by decide +kernel
theorem dX1_isStill_23 : decode cX1_isStill 23 = .ok (.ireturn, 1) := by decide +kernel
theorem dX2_init_0 : decode cX2_init 0 = .ok (.aload_n 0, 1) := by decide +kernel
theorem dX2_init_1 : decode cX2_init 1 = .ok (.invokespecial 3, 3) := by decide +kernel
theorem dX2_init_4 : decode cX2_init 4 = .ok (.aload_n 0, 1) := by decide +kernel
theorem dX2_init_5 : decode cX2_init 5 = .ok (.iload_n 1, 1) := by decide +kernel
theorem dX2_init_6 : decode cX2_init 6 = .ok (.putfield 9, 3) := by decide +kernel
theorem dX2_init_9 : decode cX2_init 9 = .ok (.aload_n 0, 1) := by decide +kernel
theorem dX2_init_10 : decode cX2_init 10 = .ok (.iload_n 2, 1) := by decide +kernel
theorem dX2_init_11 : decode cX2_init 11 = .ok (.putfield 15, 3) := by decide +kernel
theorem dX2_init_14 : decode cX2_init 14 = .ok (.aload_n 0, 1) := by decide +kernel
theorem dX2_init_15 : decode cX2_init 15 = .ok (.iload_n 3, 1) := by decide +kernel
theorem dX2_init_16 : decode cX2_init 16 = .ok (.putfield 18, 3) := by decide +kernel
theorem dX2_init_19 : decode cX2_init 19 = .ok (.aload_n 0, 1) := by decide +kernel
theorem dX2_init_20 : decode cX2_init 20 = .ok (.aload 4, 2) := by decide +kernel
theorem dX2_init_22 : decode cX2_init 22 = .ok (.putfield 21, 3) := by decide +kernel
theorem dX2_init_25 : decode cX2_init 25 = .ok (.aload_n 0, 1) := by decide +kernel
theorem dX2_init_26 : decode cX2_init 26 = .ok (.new 25, 3) := by decide +kernel
theorem dX2_init_29 : decode cX2_init 29 = .ok (.dup, 1) := by decide +kernel
theorem dX2_init_30 : decode cX2_init 30 = .ok (.aload 4, 2) := by decide +kernel
theorem dX2_init_32 : decode cX2_init 32 = .ok (.getfield 27, 3) := by decide +kernel
theorem dX2_init_35 : decode cX2_init 35 = .ok (.aload 4, 2) := by decide +kernel
theorem dX2_init_37 : decode cX2_init 37 = .ok (.getfield 30, 3) := by decide +kernel
theorem dX2_init_40 : decode cX2_init 40 = .ok (.aload 4, 2) := by decide +kernel
theorem dX2_init_42 : decode cX2_init 42 = .ok (.getfield 33, 3) := by decide +kernel
theorem dX2_init_45 : decode cX2_init 45 = .ok (.aload 4, 2) := by decide +kernel
theorem dX2_init_47 : decode cX2_init 47 = .ok (.getfield 36, 3) := by decide +kernel
theorem dX2_init_50 : decode cX2_init 50 = .ok (.aload 4, 2) := by decide +kernel
theorem dX2_init_52 : decode cX2_init 52 = .ok (.getfield 39, 3) := by decide +kernel
theorem dX2_init_55 : decode cX2_init 55 = .ok (.aload 4, 2) := by decide +kernel
theorem dX2_init_57 : decode cX2_init 57 = .ok (.getfield 42, 3) := by decide +kernel
theorem dX2_init_60 : decode cX2_init 60 = .ok (.aload 4, 2) := by decide +kernel
theorem dX2_init_62 : decode cX2_init 62 = .ok (.getfield 45, 3) := by decide +kernel
theorem dX2_init_65 : decode cX2_init 65 = .ok (.invokespecial 48, 3) := by decide +kernel
theorem dX2_init_68 : decode cX2_init 68 = .ok (.putfield 51, 3) := by decide +kernel
theorem dX2_init_71 : decode cX2_init 71 = .ok (.return_, 1) := by decide +kernel
theorem dX2_isPointing_0 : decode cX2_isPointing 0 = .ok (.aload_n 0, 1) := by decide +kernel
theorem dX2_isPointing_1 : decode cX2_isPointing 1 = .ok (.getfield 9, 3) := by decide +kernel
theorem dX2_isPointing_4 : decode cX2_isPointing 4 = .ok (.iconst 1, 1) := by decide +kernel
theorem dX2_isPointing_5 : decode cX2_isPointing 5 = .ok (.if_icmp .eq 19, 3) := by decide +kernel
theorem dX2_isPointing_8 : decode cX2_isPointing 8 = .ok (.aload_n 0, 1) := by decide +kernel
theorem dX2_isPointing_9 : decode cX2_isPointing 9 = .ok (.getfield 9, 3) := by decide +kernel
theorem dX2_isPointing_12 : decode cX2_isPointing 12 = .ok (.iconst 2, 1) := by decide +kernel
theorem dX2_isPointing_13 : decode cX2_isPointing 13 = .ok (.if_icmp .eq 11, 3) := by decide +kernel
theorem dX2_isPointing_16 : decode cX2_isPointing 16 = .ok (.aload_n 0, 1) := by decide +kernel
theorem dX2_isPointing_17 : decode cX2_isPointing 17 = .ok (.getfield 9, 3) := by decide +kernel
theorem dX2_isPointing_20 : decode cX2_isPointing 20 = .ok (.iconst 3, 1) := by decide +kernel
theorem dX2_isPointing_21 : decode cX2_isPointing 21 = .ok (.if_icmp .ne 7, 3) := by decide +kernel
theorem dX2_isPointing_24 : decode cX2_isPointing 24 = .ok (.iconst 1, 1) := by decide +kernel
theorem dX2_isPointing_25 : decode cX2_isPointing 25 = .ok (.goto 4, 3) := by decide +kernel
theorem dX2_isPointing_28 : decode cX2_isPointing 28 = .ok (.iconst 0, 1) := by decide +kernel
theorem dX2_isPointing_29 : decode cX2_isPointing 29 = .ok (.ireturn, 1) := by decide +kernel
theorem dX2_isOfSign_0 : decode cX2_isOfSign 0 = .ok (.aload_n 0, 1) := by decide +kernel
theorem dX2_isOfSign_1 : decode cX2_isOfSign 1 = .ok (.getfield 9, 3) := by decide +kernel
theorem dX2_isOfSign_4 : decode cX2_isOfSign 4 = .ok (.ifCond .eq 11, 3) := by decide +kernel
theorem dX2_isOfSign_7 : decode cX2_isOfSign 7 = .ok (.aload_n 0, 1) := by decide +kernel
theorem dX2_isOfSign_8 : decode cX2_isOfSign 8 = .ok (.getfield 9, 3) := by decide +kernel
theorem dX2_isOfSign_11 : decode cX2_isOfSign 11 = .ok (.iconst 4, 1) := by decide +kernel
theorem dX2_isOfSign_12 : decode cX2_isOfSign 12 = .ok (.if_icmp .ne 7, 3) := by decide +kernel
theorem dX2_isOfSign_15 : decode cX2_isOfSign 15 = .ok (.iconst 1, 1) := by decide +kernel
theorem dX2_isOfSign_16 : decode cX2_isOfSign 16 = .ok (.goto 4, 3) := by decide +kernel
theorem dX2_isOfSign_19 : decode cX2_isOfSign 19 = .ok (.iconst 0, 1) := by decide +kernel
theorem dX2_isOfSign_20 : decode cX2_isOfSign 20 = .ok (.ireturn, 1) := by decide +kernel
theorem dX3_init_0 : decode cX3_init 0 = .ok (.aload_n 0, 1) := by decide +kernel
theorem dX3_init_1 : decode cX3_init 1 = .ok (.invokespecial 1, 3) := by decide +kernel
theorem dX3_init_4 : decode cX3_init 4 = .ok (.aload_n 0, 1) := by decide +kernel
theorem dX3_init_5 : decode cX3_init 5 = .ok (.iload_n 1, 1) := by decide +kernel
theorem dX3_init_6 : decode cX3_init 6 = .ok (.putfield 7, 3) := by decide +kernel
theorem dX3_init_9 : decode cX3_init 9 = .ok (.aload_n 0, 1) := by decide +kernel
theorem dX3_init_10 : decode cX3_init 10 = .ok (.iload_n 2, 1) := by decide +kernel
theorem dX3_init_11 : decode cX3_init 11 = .ok (.putfield 13, 3) := by decide +kernel
theorem dX3_init_14 : decode cX3_init 14 = .ok (.aload_n 0, 1) := by decide +kernel
theorem dX3_init_15 : decode cX3_init 15 = .ok (.iload_n 3, 1) := by decide +kernel
theorem dX3_init_16 : decode cX3_init 16 = .ok (.putfield 16, 3) := by decide +kernel
theorem dX3_init_19 : decode cX3_init 19 = .ok (.aload_n 0, 1) := by decide +kernel
theorem dX3_init_20 : decode cX3_init 20 = .ok (.iload 4, 2) := by decide +kernel
theorem dX3_init_22 : decode cX3_init 22 = .ok (.putfield 19, 3) := by decide +kernel
theorem dX3_init_25 : decode cX3_init 25 = .ok (.aload_n 0, 1) := by decide +kernel
theorem dX3_init_26 : decode cX3_init 26 = .ok (.iload 5, 2) := by decide +kernel
theorem dX3_init_28 : decode cX3_init 28 = .ok (.putfield 22, 3) := by decide +kernel
theorem dX3_init_31 : decode cX3_init 31 = .ok (.return_, 1) := by decide +kernel
theorem dX3_isOf_0 : decode cX3_isOf 0 = .ok (.aload_n 0, 1) := by decide +kernel
theorem dX3_isOf_1 : decode cX3_isOf 1 = .ok (.getfield 7, 3) := by decide +kernel
theorem dX3_isOf_4 : decode cX3_isOf 4 = .ok (.iload_n 1, 1) := by decide +kernel
theorem dX3_isOf_5 : decode cX3_isOf 5 = .ok (.if_icmp .ne 15, 3) := by decide +kernel
theorem dX3_isOf_8 : decode cX3_isOf 8 = .ok (.aload_n 0, 1) := by decide +kernel
theorem dX3_isOf_9 : decode cX3_isOf 9 = .ok (.getfield 13, 3) := by decide +kernel
theorem dX3_isOf_12 : decode cX3_isOf 12 = .ok (.iload_n 2, 1) := by decide +kernel
theorem dX3_isOf_13 : decode cX3_isOf 13 = .ok (.if_icmp .ne 7, 3) := by decide +kernel
theorem dX3_isOf_16 : decode cX3_isOf 16 = .ok (.iconst 1, 1) := by decide +kernel
theorem dX3_isOf_17 : decode cX3_isOf 17 = .ok (.goto 4, 3) := by decide +kernel
theorem dX3_isOf_20 : decode cX3_isOf 20 = .ok (.iconst 0, 1) := by decide +kernel
theorem dX3_isOf_21 : decode cX3_isOf 21 = .ok (.ireturn, 1) := by decide +kernel
theorem dX3_writeValue_0 : decode cX3_writeValue 0 = .ok (.aload_n 0, 1) := by decide +kernel
theorem dX3_writeValue_1 : decode cX3_writeValue 1 = .ok (.getfield 16, 3) := by decide +kernel
theorem dX3_writeValue_4 : decode cX3_writeValue 4 = .ok (.istore_n 2, 1) := by decide +kernel
theorem dX3_writeValue_5 : decode cX3_writeValue 5 = .ok (.iload_n 2, 1) := by decide +kernel
theorem dX3_writeValue_6 : decode cX3_writeValue 6 = .ok (.aload_n 0, 1) := by decide +kernel
theorem dX3_writeValue_7 : decode cX3_writeValue 7 = .ok (.getfield 19, 3) := by decide +kernel
theorem dX3_writeValue_10 : decode cX3_writeValue 10 = .ok (.if_icmp .ge 25, 3) := by decide +kernel
theorem dX3_writeValue_13 : decode cX3_writeValue 13 = .ok (.iload_n 2, 1) := by decide +kernel
theorem dX3_writeValue_14 : decode cX3_writeValue 14 = .ok (.aload_n 1, 1) := by decide +kernel
theorem dX3_writeValue_15 : decode cX3_writeValue 15 = .ok (.arraylength, 1) := by decide +kernel
theorem dX3_writeValue_16 : decode cX3_writeValue 16 = .ok (.invokestatic 25, 3) := by decide +kernel
theorem dX3_writeValue_19 : decode cX3_writeValue 19 = .ok (.ifCond .eq 16, 3) := by decide +kernel
theorem dX3_writeValue_22 : decode cX3_writeValue 22 = .ok (.aload_n 1, 1) := by decide +kernel
theorem dX3_writeValue_23 : decode cX3_writeValue 23 = .ok (.iload_n 2, 1) := by decide +kernel
theorem dX3_writeValue_24 : decode cX3_writeValue 24 = .ok (.aload_n 0, 1) := by decide +kernel
theorem dX3_writeValue_25 : decode cX3_writeValue 25 = .ok (.getfield 22, 3) := by decide +kernel
theorem dX3_writeValue_28 : decode cX3_writeValue 28 = .ok (.iastore, 1) := by decide +kernel
theorem dX3_writeValue_29 : decode cX3_writeValue 29 = .ok (.iinc 2 1, 3) := by decide +kernel
theorem dX3_writeValue_32 : decode cX3_writeValue 32 = .ok (.goto (-27), 3) := by decide +kernel
theorem dX3_writeValue_35 : decode cX3_writeValue 35 = .ok (.return_, 1) := by decide +kernel
theorem dX3_countTicksIn_0 : decode cX3_countTicksIn 0 = .ok (.iconst 0, 1) := by decide +kernel
theorem dX3_countTicksIn_1 : decode cX3_countTicksIn 1 = .ok (.istore_n 2, 1) := by decide +kernel
theorem dX3_countTicksIn_2 : decode cX3_countTicksIn 2 = .ok (.aload_n 0, 1) := by decide +kernel
theorem dX3_countTicksIn_3 : decode cX3_countTicksIn 3 = .ok (.getfield 16, 3) := by decide +kernel
theorem dX3_countTicksIn_6 : decode cX3_countTicksIn 6 = .ok (.istore_n 3, 1) := by decide +kernel
theorem dX3_countTicksIn_7 : decode cX3_countTicksIn 7 = .ok (.iload_n 3, 1) := by decide +kernel
theorem dX3_countTicksIn_8 : decode cX3_countTicksIn 8 = .ok (.aload_n 0, 1) := by decide +kernel
theorem dX3_countTicksIn_9 : decode cX3_countTicksIn 9 = .ok (.getfield 19, 3) := by decide +kernel
theorem dX3_countTicksIn_12 : decode cX3_countTicksIn 12 = .ok (.if_icmp .ge 31, 3) := by decide +kernel
theorem dX3_countTicksIn_15 : decode cX3_countTicksIn 15 = .ok (.iload_n 3, 1) := by decide +kernel
theorem dX3_countTicksIn_16 : decode cX3_countTicksIn 16 = .ok (.aload_n 1, 1) := by decide +kernel
theorem dX3_countTicksIn_17 : decode cX3_countTicksIn 17 = .ok (.arraylength, 1) := by decide +kernel
theorem dX3_countTicksIn_18 : decode cX3_countTicksIn 18 = .ok (.invokestatic 25, 3) := by decide +kernel
theorem dX3_countTicksIn_21 : decode cX3_countTicksIn 21 = .ok (.ifCond .eq 22, 3) := by decide +kernel
theorem dX3_countTicksIn_24 : decode cX3_countTicksIn 24 = .ok (.aload_n 1, 1) := by decide +kernel
theorem dX3_countTicksIn_25 : decode cX3_countTicksIn 25 = .ok (.iload_n 3, 1) := by decide +kernel
theorem dX3_countTicksIn_26 : decode cX3_countTicksIn 26 = .ok (.iaload, 1) := by decide +kernel
theorem dX3_countTicksIn_27 : decode cX3_countTicksIn 27 = .ok (.aload_n 0, 1) := by decide +kernel
theorem dX3_countTicksIn_28 : decode cX3_countTicksIn 28 = .ok (.getfield 22, 3) := by decide +kernel
theorem dX3_countTicksIn_31 : decode cX3_countTicksIn 31 = .ok (.if_icmp .ne 6, 3) := by decide +kernel
theorem dX3_countTicksIn_34 : decode cX3_countTicksIn 34 = .ok (.iinc 2 1, 3) := by decide +kernel
theorem dX3_countTicksIn_37 : decode cX3_countTicksIn 37 = .ok (.iinc 3 1, 3) := by decide +kernel
theorem dX3_countTicksIn_40 : decode cX3_countTicksIn 40 = .ok (.goto (-33), 3) := by decide +kernel
theorem dX3_countTicksIn_43 : decode cX3_countTicksIn 43 = .ok (.iload_n 2, 1) := by decide +kernel
theorem dX3_countTicksIn_44 : decode cX3_countTicksIn 44 = .ok (.ireturn, 1) := by decide +kernel
theorem dX4_init_0 : decode cX4_init 0 = .ok (.aload_n 0, 1) := by decide +kernel
theorem dX4_init_1 : decode cX4_init 1 = .ok (.invokespecial 3, 3) := by decide +kernel
theorem dX4_init_4 : decode cX4_init 4 = .ok (.aload_n 0, 1) := by decide +kernel
theorem dX4_init_5 : decode cX4_init 5 = .ok (.iload_n 1, 1) := by decide +kernel
theorem dX4_init_6 : decode cX4_init 6 = .ok (.putfield 9, 3) := by decide +kernel
theorem dX4_init_9 : decode cX4_init 9 = .ok (.aload_n 0, 1) := by decide +kernel
theorem dX4_init_10 : decode cX4_init 10 = .ok (.bipush 30, 2) := by decide +kernel
theorem dX4_init_12 : decode cX4_init 12 = .ok (.newarray .boolean, 2) := by decide +kernel
theorem dX4_init_14 : decode cX4_init 14 = .ok (.putfield 15, 3) := by decide +kernel
theorem dX4_init_17 : decode cX4_init 17 = .ok (.return_, 1) := by decide +kernel
theorem dX4_hasException_0 : decode cX4_hasException 0 = .ok (.iload_n 1, 1) := by decide +kernel
theorem dX4_hasException_1 : decode cX4_hasException 1 = .ok (.aload_n 0, 1) := by decide +kernel
theorem dX4_hasException_2 : decode cX4_hasException 2 = .ok (.getfield 15, 3) := by decide +kernel
theorem dX4_hasException_5 : decode cX4_hasException 5 = .ok (.arraylength, 1) := by decide +kernel
theorem dX4_hasException_6 : decode cX4_hasException 6 = .ok (.invokestatic 19, 3) := by decide +kernel
theorem dX4_hasException_9 : decode cX4_hasException 9 = .ok (.ifCond .eq 16, 3) := by decide +kernel
theorem dX4_hasException_12 : decode cX4_hasException 12 = .ok (.aload_n 0, 1) := by decide +kernel
theorem dX4_hasException_13 : decode cX4_hasException 13 = .ok (.getfield 15, 3) := by decide +kernel
theorem dX4_hasException_16 : decode cX4_hasException 16 = .ok (.iload_n 1, 1) := by decide +kernel
theorem dX4_hasException_17 : decode cX4_hasException 17 = .ok (.baload, 1) := by decide +kernel
theorem dX4_hasException_18 : decode cX4_hasException 18 = .ok (.ifCond .eq 7, 3) := by decide +kernel
theorem dX4_hasException_21 : decode cX4_hasException 21 = .ok (.iconst 1, 1) := by decide +kernel
theorem dX4_hasException_22 : decode cX4_hasException 22 = .ok (.goto 4, 3) := by decide +kernel
theorem dX4_hasException_25 : decode cX4_hasException 25 = .ok (.iconst 0, 1) := by decide +kernel
theorem dX4_hasException_26 : decode cX4_hasException 26 = .ok (.ireturn, 1) := by decide +kernel
theorem dX4_toggleException_0 : decode cX4_toggleException 0 = .ok (.iload_n 1, 1) := by decide +kernel
theorem dX4_toggleException_1 : decode cX4_toggleException 1 = .ok (.aload_n 0, 1) := by decide +kernel
theorem dX4_toggleException_2 : decode cX4_toggleException 2 = .ok (.getfield 15, 3) := by decide +kernel
theorem dX4_toggleException_5 : decode cX4_toggleException 5 = .ok (.arraylength, 1) := by decide +kernel
theorem dX4_toggleException_6 : decode cX4_toggleException 6 = .ok (.invokestatic 19, 3) := by decide +kernel
theorem dX4_toggleException_9 : decode cX4_toggleException 9 = .ok (.ifCond .eq 23, 3) := by decide +kernel
theorem dX4_toggleException_12 : decode cX4_toggleException 12 = .ok (.aload_n 0, 1) := by decide +kernel
theorem dX4_toggleException_13 : decode cX4_toggleException 13 = .ok (.getfield 15, 3) := by decide +kernel
theorem dX4_toggleException_16 : decode cX4_toggleException 16 = .ok (.iload_n 1, 1) := by decide +kernel
theorem dX4_toggleException_17 : decode cX4_toggleException 17 = .ok (.aload_n 0, 1) := by decide +kernel
theorem dX4_toggleException_18 : decode cX4_toggleException 18 = .ok (.getfield 15, 3) := by decide +kernel
theorem dX4_toggleException_21 : decode cX4_toggleException 21 = .ok (.iload_n 1, 1) := by decide +kernel
theorem dX4_toggleException_22 : decode cX4_toggleException 22 = .ok (.baload, 1) := by decide +kernel
theorem dX4_toggleException_23 : decode cX4_toggleException 23 = .ok (.ifCond .ne 7, 3) := by decide +kernel
theorem dX4_toggleException_26 : decode cX4_toggleException 26 = .ok (.iconst 1, 1) := by decide +kernel
theorem dX4_toggleException_27 : decode cX4_toggleException 27 = .ok (.goto 4, 3) := by decide +kernel
theorem dX4_toggleException_30 : decode cX4_toggleException 30 = .ok (.iconst 0, 1) := by decide +kernel
theorem dX4_toggleException_31 : decode cX4_toggleException 31 = .ok (.bastore, 1) := by decide +kernel
theorem dX4_toggleException_32 : decode cX4_toggleException 32 = .ok (.aload_n 0, 1) := by decide +kernel
theorem dX4_toggleException_33 : decode cX4_toggleException 33 = .ok (.iload_n 1, 1) := by decide +kernel
theorem dX4_toggleException_34 : decode cX4_toggleException 34 = .ok (.invokevirtual 23, 3) := by decide +kernel
theorem dX4_toggleException_37 : decode cX4_toggleException 37 = .ok (.ireturn, 1) := by decide +kernel
theorem dX5_init_0 : decode cX5_init 0 = .ok (.aload_n 0, 1) := by decide +kernel
theorem dX5_init_1 : decode cX5_init 1 = .ok (.invokespecial 1, 3) := by decide +kernel
theorem dX5_init_4 : decode cX5_init 4 = .ok (.aload_n 0, 1) := by decide +kernel
theorem dX5_init_5 : decode cX5_init 5 = .ok (.iload_n 1, 1) := by decide +kernel
theorem dX5_init_6 : decode cX5_init 6 = .ok (.putfield 7, 3) := by decide +kernel
theorem dX5_init_9 : decode cX5_init 9 = .ok (.aload_n 0, 1) := by decide +kernel
theorem dX5_init_10 : decode cX5_init 10 = .ok (.iload_n 2, 1) := by decide +kernel
theorem dX5_init_11 : decode cX5_init 11 = .ok (.putfield 13, 3) := by decide +kernel
theorem dX5_init_14 : decode cX5_init 14 = .ok (.aload_n 0, 1) := by decide +kernel
theorem dX5_init_15 : decode cX5_init 15 = .ok (.iload_n 3, 1) := by decide +kernel
theorem dX5_init_16 : decode cX5_init 16 = .ok (.putfield 16, 3) := by decide +kernel
theorem dX5_init_19 : decode cX5_init 19 = .ok (.return_, 1) := by decide +kernel
theorem dX6_init_0 : decode cX6_init 0 = .ok (.aload_n 0, 1) := by decide +kernel
theorem dX6_init_1 : decode cX6_init 1 = .ok (.invokespecial 1, 3) := by decide +kernel
theorem dX6_init_4 : decode cX6_init 4 = .ok (.aload_n 0, 1) := by decide +kernel
theorem dX6_init_5 : decode cX6_init 5 = .ok (.new 7, 3) := by decide +kernel
theorem dX6_init_8 : decode cX6_init 8 = .ok (.dup, 1) := by decide +kernel
theorem dX6_init_9 : decode cX6_init 9 = .ok (.invokespecial 9, 3) := by decide +kernel
theorem dX6_init_12 : decode cX6_init 12 = .ok (.putfield 10, 3) := by decide +kernel
theorem dX6_init_15 : decode cX6_init 15 = .ok (.aload_n 0, 1) := by decide +kernel
theorem dX6_init_16 : decode cX6_init 16 = .ok (.new 7, 3) := by decide +kernel
theorem dX6_init_19 : decode cX6_init 19 = .ok (.dup, 1) := by decide +kernel
theorem dX6_init_20 : decode cX6_init 20 = .ok (.invokespecial 9, 3) := by decide +kernel
theorem dX6_init_23 : decode cX6_init 23 = .ok (.putfield 16, 3) := by decide +kernel
theorem dX6_init_26 : decode cX6_init 26 = .ok (.aload_n 0, 1) := by decide +kernel
theorem dX6_init_27 : decode cX6_init 27 = .ok (.new 7, 3) := by decide +kernel
theorem dX6_init_30 : decode cX6_init 30 = .ok (.dup, 1) := by decide +kernel
theorem dX6_init_31 : decode cX6_init 31 = .ok (.invokespecial 9, 3) := by decide +kernel
theorem dX6_init_34 : decode cX6_init 34 = .ok (.putfield 19, 3) := by decide +kernel
theorem dX6_init_37 : decode cX6_init 37 = .ok (.aload_n 0, 1) := by decide +kernel
theorem dX6_init_38 : decode cX6_init 38 = .ok (.new 7, 3) := by decide +kernel
theorem dX6_init_41 : decode cX6_init 41 = .ok (.dup, 1) := by decide +kernel
theorem dX6_init_42 : decode cX6_init 42 = .ok (.invokespecial 9, 3) := by decide +kernel
theorem dX6_init_45 : decode cX6_init 45 = .ok (.putfield 22, 3) := by decide +kernel
theorem dX6_init_48 : decode cX6_init 48 = .ok (.aload_n 0, 1) := by decide +kernel
theorem dX6_init_49 : decode cX6_init 49 = .ok (.new 7, 3) := by decide +kernel
theorem dX6_init_52 : decode cX6_init 52 = .ok (.dup, 1) := by decide +kernel
theorem dX6_init_53 : decode cX6_init 53 = .ok (.invokespecial 9, 3) := by decide +kernel
theorem dX6_init_56 : decode cX6_init 56 = .ok (.putfield 25, 3) := by decide +kernel
theorem dX6_init_59 : decode cX6_init 59 = .ok (.aload_n 0, 1) := by decide +kernel
theorem dX6_init_60 : decode cX6_init 60 = .ok (.iconst 3, 1) := by decide +kernel
theorem dX6_init_61 : decode cX6_init 61 = .ok (.newarray .int, 2) := by decide +kernel
theorem dX6_init_63 : decode cX6_init 63 = .ok (.putfield 28, 3) := by decide +kernel
theorem dX6_init_66 : decode cX6_init 66 = .ok (.aload_n 0, 1) := by decide +kernel
theorem dX6_init_67 : decode cX6_init 67 = .ok (.sipush 200, 3) := by decide +kernel
theorem dX6_init_70 : decode cX6_init 70 = .ok (.newarray .int, 2) := by decide +kernel
theorem dX6_init_72 : decode cX6_init 72 = .ok (.putfield 32, 3) := by decide +kernel
theorem dX6_init_75 : decode cX6_init 75 = .ok (.aload_n 0, 1) := by decide +kernel
theorem dX6_init_76 : decode cX6_init 76 = .ok (.sipush 200, 3) := by decide +kernel
theorem dX6_init_79 : decode cX6_init 79 = .ok (.newarray .int, 2) := by decide +kernel
theorem dX6_init_81 : decode cX6_init 81 = .ok (.putfield 35, 3) := by decide +kernel
theorem dX6_init_84 : decode cX6_init 84 = .ok (.return_, 1) := by decide +kernel
theorem dX6_sign_0 : decode cX6_sign 0 = .ok (.iload_n 1, 1) := by decide +kernel
theorem dX6_sign_1 : decode cX6_sign 1 = .ok (.bipush 8, 2) := by decide +kernel
theorem dX6_sign_3 : decode cX6_sign 3 = .ok (.invokestatic 38, 3) := by decide +kernel
theorem dX6_sign_6 : decode cX6_sign 6 = .ok (.ifCond .eq 52, 3) := by decide +kernel
theorem dX6_sign_9 : decode cX6_sign 9 = .ok (.iload_n 2, 1) := by decide +kernel
theorem dX6_sign_10 : decode cX6_sign 10 = .ok (.bipush 9, 2) := by decide +kernel
theorem dX6_sign_12 : decode cX6_sign 12 = .ok (.invokestatic 38, 3) := by decide +kernel
theorem dX6_sign_15 : decode cX6_sign 15 = .ok (.ifCond .eq 43, 3) := by decide +kernel
theorem dX6_sign_18 : decode cX6_sign 18 = .ok (.iload_n 3, 1) := by decide +kernel
theorem dX6_sign_19 : decode cX6_sign 19 = .ok (.bipush 9, 2) := by decide +kernel
theorem dX6_sign_21 : decode cX6_sign 21 = .ok (.invokestatic 38, 3) := by decide +kernel
theorem dX6_sign_24 : decode cX6_sign 24 = .ok (.ifCond .eq 34, 3) := by decide +kernel
theorem dX6_sign_27 : decode cX6_sign 27 = .ok (.iload 4, 2) := by decide +kernel
theorem dX6_sign_29 : decode cX6_sign 29 = .ok (.iconst 4, 1) := by decide +kernel
theorem dX6_sign_30 : decode cX6_sign 30 = .ok (.invokestatic 38, 3) := by decide +kernel
theorem dX6_sign_33 : decode cX6_sign 33 = .ok (.ifCond .eq 25, 3) := by decide +kernel
theorem dX6_sign_36 : decode cX6_sign 36 = .ok (.iload 5, 2) := by decide +kernel
theorem dX6_sign_38 : decode cX6_sign 38 = .ok (.iconst 4, 1) := by decide +kernel
theorem dX6_sign_39 : decode cX6_sign 39 = .ok (.invokestatic 38, 3) := by decide +kernel
theorem dX6_sign_42 : decode cX6_sign 42 = .ok (.ifCond .eq 16, 3) := by decide +kernel
theorem dX6_sign_45 : decode cX6_sign 45 = .ok (.iload 6, 2) := by decide +kernel
theorem dX6_sign_47 : decode cX6_sign 47 = .ok (.iconst 3, 1) := by decide +kernel
theorem dX6_sign_48 : decode cX6_sign 48 = .ok (.invokestatic 38, 3) := by decide +kernel
theorem dX6_sign_51 : decode cX6_sign 51 = .ok (.ifCond .eq 7, 3) := by decide +kernel
theorem dX6_sign_54 : decode cX6_sign 54 = .ok (.iconst 1, 1) := by decide +kernel
theorem dX6_sign_55 : decode cX6_sign 55 = .ok (.goto 4, 3) := by decide +kernel
theorem dX6_sign_58 : decode cX6_sign 58 = .ok (.iconst 0, 1) := by decide +kernel
theorem dX6_sign_59 : decode cX6_sign 59 = .ok (.istore 8, 2) := by decide +kernel
theorem dX6_sign_61 : decode cX6_sign 61 = .ok (.iload 8, 2) := by decide +kernel
theorem dX6_sign_63 : decode cX6_sign 63 = .ok (.ifCond .ne 13, 3) := by decide +kernel
theorem dX6_sign_66 : decode cX6_sign 66 = .ok (.new 42, 3) := by decide +kernel
theorem dX6_sign_69 : decode cX6_sign 69 = .ok (.dup, 1) := by decide +kernel
theorem dX6_sign_70 : decode cX6_sign 70 = .ok (.ldc 44, 2) := by decide +kernel
theorem dX6_sign_72 : decode cX6_sign 72 = .ok (.invokespecial 46, 3) := by decide +kernel
theorem dX6_sign_75 : decode cX6_sign 75 = .ok (.athrow, 1) := by decide +kernel
theorem dX6_sign_76 : decode cX6_sign 76 = .ok (.iload 6, 2) := by decide +kernel
theorem dX6_sign_78 : decode cX6_sign 78 = .ok (.iconst 2, 1) := by decide +kernel
theorem dX6_sign_79 : decode cX6_sign 79 = .ok (.if_icmp .ne 22, 3) := by decide +kernel
theorem dX6_sign_82 : decode cX6_sign 82 = .ok (.iload_n 1, 1) := by decide +kernel
theorem dX6_sign_83 : decode cX6_sign 83 = .ok (.iload 7, 2) := by decide +kernel
theorem dX6_sign_85 : decode cX6_sign 85 = .ok (.invokestatic 49, 3) := by decide +kernel
theorem dX6_sign_88 : decode cX6_sign 88 = .ok (.ifCond .ne 13, 3) := by decide +kernel
theorem dX6_sign_91 : decode cX6_sign 91 = .ok (.new 42, 3) := by decide +kernel
theorem dX6_sign_94 : decode cX6_sign 94 = .ok (.dup, 1) := by decide +kernel
theorem dX6_sign_95 : decode cX6_sign 95 = .ok (.ldc 52, 2) := by decide +kernel
theorem dX6_sign_97 : decode cX6_sign 97 = .ok (.invokespecial 46, 3) := by decide +kernel
theorem dX6_sign_100 : decode cX6_sign 100 = .ok (.athrow, 1) := by decide +kernel
theorem dX6_sign_101 : decode cX6_sign 101 = .ok (.aload_n 0, 1) := by decide +kernel
theorem dX6_sign_102 : decode cX6_sign 102 = .ok (.getfield 10, 3) := by decide +kernel
theorem dX6_sign_105 : decode cX6_sign 105 = .ok (.invokevirtual 54, 3) := by decide +kernel
theorem dX6_sign_108 : decode cX6_sign 108 = .ok (.bipush 30, 2) := by decide +kernel
theorem dX6_sign_110 : decode cX6_sign 110 = .ok (.if_icmp .lt 13, 3) := by decide +kernel
theorem dX6_sign_113 : decode cX6_sign 113 = .ok (.new 58, 3) := by decide +kernel
theorem dX6_sign_116 : decode cX6_sign 116 = .ok (.dup, 1) := by decide +kernel
theorem dX6_sign_117 : decode cX6_sign 117 = .ok (.ldc 60, 2) := by decide +kernel
theorem dX6_sign_119 : decode cX6_sign 119 = .ok (.invokespecial 62, 3) := by decide +kernel
theorem dX6_sign_122 : decode cX6_sign 122 = .ok (.athrow, 1) := by decide +kernel
theorem dX6_sign_123 : decode cX6_sign 123 = .ok (.new 63, 3) := by decide +kernel
theorem dX6_sign_126 : decode cX6_sign 126 = .ok (.dup, 1) := by decide +kernel
theorem dX6_sign_127 : decode cX6_sign 127 = .ok (.iload_n 1, 1) := by decide +kernel
theorem dX6_sign_128 : decode cX6_sign 128 = .ok (.iload_n 2, 1) := by decide +kernel
theorem dX6_sign_129 : decode cX6_sign 129 = .ok (.iload_n 3, 1) := by decide +kernel
theorem dX6_sign_130 : decode cX6_sign 130 = .ok (.iload 4, 2) := by decide +kernel
theorem dX6_sign_132 : decode cX6_sign 132 = .ok (.iload 5, 2) := by decide +kernel
theorem dX6_sign_134 : decode cX6_sign 134 = .ok (.iload 6, 2) := by decide +kernel
theorem dX6_sign_136 : decode cX6_sign 136 = .ok (.iload 7, 2) := by decide +kernel
theorem dX6_sign_138 : decode cX6_sign 138 = .ok (.invokespecial 65, 3) := by decide +kernel
theorem dX6_sign_141 : decode cX6_sign 141 = .ok (.astore 9, 2) := by decide +kernel
theorem dX6_sign_143 : decode cX6_sign 143 = .ok (.aload_n 0, 1) := by decide +kernel
theorem dX6_sign_144 : decode cX6_sign 144 = .ok (.aload 9, 2) := by decide +kernel
theorem dX6_sign_146 : decode cX6_sign 146 = .ok (.invokevirtual 68, 3) := by decide +kernel
theorem dX6_sign_149 : decode cX6_sign 149 = .ok (.iconst (-1), 1) := by decide +kernel
theorem dX6_sign_150 : decode cX6_sign 150 = .ok (.if_icmp .eq 13, 3) := by decide +kernel
theorem dX6_sign_153 : decode cX6_sign 153 = .ok (.new 58, 3) := by decide +kernel
theorem dX6_sign_156 : decode cX6_sign 156 = .ok (.dup, 1) := by decide +kernel
theorem dX6_sign_157 : decode cX6_sign 157 = .ok (.ldc 72, 2) := by decide +kernel
theorem dX6_sign_159 : decode cX6_sign 159 = .ok (.invokespecial 62, 3) := by decide +kernel
theorem dX6_sign_162 : decode cX6_sign 162 = .ok (.athrow, 1) := by decide +kernel
theorem dX6_sign_163 : decode cX6_sign 163 = .ok (.aload_n 0, 1) := by decide +kernel
theorem dX6_sign_164 : decode cX6_sign 164 = .ok (.getfield 10, 3) := by decide +kernel
theorem dX6_sign_167 : decode cX6_sign 167 = .ok (.aload 9, 2) := by decide +kernel
theorem dX6_sign_169 : decode cX6_sign 169 = .ok (.invokevirtual 74, 3) := by decide +kernel
theorem dX6_sign_172 : decode cX6_sign 172 = .ok (.pop, 1) := by decide +kernel
theorem dX6_sign_173 : decode cX6_sign 173 = .ok (.aload_n 0, 1) := by decide +kernel
theorem dX6_sign_174 : decode cX6_sign 174 = .ok (.getfield 10, 3) := by decide +kernel
theorem dX6_sign_177 : decode cX6_sign 177 = .ok (.invokevirtual 54, 3) := by decide +kernel
theorem dX6_sign_180 : decode cX6_sign 180 = .ok (.iconst 1, 1) := by decide +kernel
theorem dX6_sign_181 : decode cX6_sign 181 = .ok (.isub, 1) := by decide +kernel
theorem dX6_sign_182 : decode cX6_sign 182 = .ok (.ireturn, 1) := by decide +kernel
theorem dX6_nearest_0 : decode cX6_nearest 0 = .ok (.aload_n 0, 1) := by decide +kernel
theorem dX6_nearest_1 : decode cX6_nearest 1 = .ok (.iload_n 1, 1) := by decide +kernel
theorem dX6_nearest_2 : decode cX6_nearest 2 = .ok (.invokevirtual 78, 3) := by decide +kernel
theorem dX6_nearest_5 : decode cX6_nearest 5 = .ok (.iload_n 2, 1) := by decide +kernel
theorem dX6_nearest_6 : decode cX6_nearest 6 = .ok (.iconst 2, 1) := by decide +kernel
theorem dX6_nearest_7 : decode cX6_nearest 7 = .ok (.invokestatic 38, 3) := by decide +kernel
theorem dX6_nearest_10 : decode cX6_nearest 10 = .ok (.ifCond .ne 13, 3) := by decide +kernel
theorem dX6_nearest_13 : decode cX6_nearest 13 = .ok (.new 42, 3) := by decide +kernel
theorem dX6_nearest_16 : decode cX6_nearest 16 = .ok (.dup, 1) := by decide +kernel
theorem dX6_nearest_17 : decode cX6_nearest 17 = .ok (.ldc 82, 2) := by decide +kernel
theorem dX6_nearest_19 : decode cX6_nearest 19 = .ok (.invokespecial 46, 3) := by decide +kernel
theorem dX6_nearest_22 : decode cX6_nearest 22 = .ok (.athrow, 1) := by decide +kernel
theorem dX6_nearest_23 : decode cX6_nearest 23 = .ok (.aload_n 0, 1) := by decide +kernel
theorem dX6_nearest_24 : decode cX6_nearest 24 = .ok (.getfield 10, 3) := by decide +kernel
theorem dX6_nearest_27 : decode cX6_nearest 27 = .ok (.iload_n 1, 1) := by decide +kernel
theorem dX6_nearest_28 : decode cX6_nearest 28 = .ok (.invokevirtual 84, 3) := by decide +kernel
theorem dX6_nearest_31 : decode cX6_nearest 31 = .ok (.checkcast 63, 3) := by decide +kernel
theorem dX6_nearest_34 : decode cX6_nearest 34 = .ok (.astore_n 3, 1) := by decide +kernel
theorem dX6_nearest_35 : decode cX6_nearest 35 = .ok (.iconst (-1), 1) := by decide +kernel
theorem dX6_nearest_36 : decode cX6_nearest 36 = .ok (.istore 4, 2) := by decide +kernel
theorem dX6_nearest_38 : decode cX6_nearest 38 = .ok (.iconst (-1), 1) := by decide +kernel
theorem dX6_nearest_39 : decode cX6_nearest 39 = .ok (.istore 5, 2) := by decide +kernel
theorem dX6_nearest_41 : decode cX6_nearest 41 = .ok (.iconst 0, 1) := by decide +kernel
theorem dX6_nearest_42 : decode cX6_nearest 42 = .ok (.istore 6, 2) := by decide +kernel
theorem dX6_nearest_44 : decode cX6_nearest 44 = .ok (.iload 6, 2) := by decide +kernel
theorem dX6_nearest_46 : decode cX6_nearest 46 = .ok (.aload_n 0, 1) := by decide +kernel
theorem dX6_nearest_47 : decode cX6_nearest 47 = .ok (.getfield 10, 3) := by decide +kernel
theorem dX6_nearest_50 : decode cX6_nearest 50 = .ok (.invokevirtual 54, 3) := by decide +kernel
theorem dX6_nearest_53 : decode cX6_nearest 53 = .ok (.if_icmp .ge 57, 3) := by decide +kernel
theorem dX6_nearest_56 : decode cX6_nearest 56 = .ok (.iload 6, 2) := by decide +kernel
theorem dX6_nearest_58 : decode cX6_nearest 58 = .ok (.iload_n 1, 1) := by decide +kernel
theorem dX6_nearest_59 : decode cX6_nearest 59 = .ok (.if_icmp .ne 6, 3) := by decide +kernel
theorem dX6_nearest_62 : decode cX6_nearest 62 = .ok (.goto 42, 3) := by decide +kernel
theorem dX6_nearest_65 : decode cX6_nearest 65 = .ok (.aload_n 3, 1) := by decide +kernel
theorem dX6_nearest_66 : decode cX6_nearest 66 = .ok (.aload_n 0, 1) := by decide +kernel
theorem dX6_nearest_67 : decode cX6_nearest 67 = .ok (.getfield 10, 3) := by decide +kernel
theorem dX6_nearest_70 : decode cX6_nearest 70 = .ok (.iload 6, 2) := by decide +kernel
theorem dX6_nearest_72 : decode cX6_nearest 72 = .ok (.invokevirtual 84, 3) := by decide +kernel
theorem dX6_nearest_75 : decode cX6_nearest 75 = .ok (.checkcast 63, 3) := by decide +kernel
theorem dX6_nearest_78 : decode cX6_nearest 78 = .ok (.invokevirtual 88, 3) := by decide +kernel
theorem dX6_nearest_81 : decode cX6_nearest 81 = .ok (.istore 7, 2) := by decide +kernel
theorem dX6_nearest_83 : decode cX6_nearest 83 = .ok (.iload 4, 2) := by decide +kernel
theorem dX6_nearest_85 : decode cX6_nearest 85 = .ok (.iconst (-1), 1) := by decide +kernel
theorem dX6_nearest_86 : decode cX6_nearest 86 = .ok (.if_icmp .eq 10, 3) := by decide +kernel
theorem dX6_nearest_89 : decode cX6_nearest 89 = .ok (.iload 7, 2) := by decide +kernel
theorem dX6_nearest_91 : decode cX6_nearest 91 = .ok (.iload 5, 2) := by decide +kernel
theorem dX6_nearest_93 : decode cX6_nearest 93 = .ok (.if_icmp .ge 11, 3) := by decide +kernel
theorem dX6_nearest_96 : decode cX6_nearest 96 = .ok (.iload 6, 2) := by decide +kernel
theorem dX6_nearest_98 : decode cX6_nearest 98 = .ok (.istore 4, 2) := by decide +kernel
theorem dX6_nearest_100 : decode cX6_nearest 100 = .ok (.iload 7, 2) := by decide +kernel
theorem dX6_nearest_102 : decode cX6_nearest 102 = .ok (.istore 5, 2) := by decide +kernel
theorem dX6_nearest_104 : decode cX6_nearest 104 = .ok (.iinc 6 1, 3) := by decide +kernel
theorem dX6_nearest_107 : decode cX6_nearest 107 = .ok (.goto (-63), 3) := by decide +kernel
theorem dX6_nearest_110 : decode cX6_nearest 110 = .ok (.iload_n 2, 1) := by decide +kernel
theorem dX6_nearest_111 : decode cX6_nearest 111 = .ok (.ifCond .ne 8, 3) := by decide +kernel
theorem dX6_nearest_114 : decode cX6_nearest 114 = .ok (.iload 4, 2) := by decide +kernel
theorem dX6_nearest_116 : decode cX6_nearest 116 = .ok (.goto 5, 3) := by decide +kernel
theorem dX6_nearest_119 : decode cX6_nearest 119 = .ok (.iload 5, 2) := by decide +kernel
theorem dX6_nearest_121 : decode cX6_nearest 121 = .ok (.ireturn, 1) := by decide +kernel
theorem dX6_written_0 : decode cX6_written 0 = .ok (.aload_n 0, 1) := by decide +kernel
theorem dX6_written_1 : decode cX6_written 1 = .ok (.iload_n 1, 1) := by decide +kernel
theorem dX6_written_2 : decode cX6_written 2 = .ok (.invokevirtual 78, 3) := by decide +kernel
theorem dX6_written_5 : decode cX6_written 5 = .ok (.iload_n 2, 1) := by decide +kernel
theorem dX6_written_6 : decode cX6_written 6 = .ok (.invokestatic 91, 3) := by decide +kernel
theorem dX6_written_9 : decode cX6_written 9 = .ok (.iload_n 2, 1) := by decide +kernel
theorem dX6_written_10 : decode cX6_written 10 = .ok (.aload_n 0, 1) := by decide +kernel
theorem dX6_written_11 : decode cX6_written 11 = .ok (.getfield 10, 3) := by decide +kernel
theorem dX6_written_14 : decode cX6_written 14 = .ok (.iload_n 1, 1) := by decide +kernel
theorem dX6_written_15 : decode cX6_written 15 = .ok (.invokevirtual 84, 3) := by decide +kernel
theorem dX6_written_18 : decode cX6_written 18 = .ok (.checkcast 63, 3) := by decide +kernel
theorem dX6_written_21 : decode cX6_written 21 = .ok (.invokestatic 94, 3) := by decide +kernel
theorem dX6_written_24 : decode cX6_written 24 = .ok (.ireturn, 1) := by decide +kernel
theorem dX6_loses_0 : decode cX6_loses 0 = .ok (.iload_n 1, 1) := by decide +kernel
theorem dX6_loses_1 : decode cX6_loses 1 = .ok (.invokestatic 91, 3) := by decide +kernel
theorem dX6_loses_4 : decode cX6_loses 4 = .ok (.iload_n 2, 1) := by decide +kernel
theorem dX6_loses_5 : decode cX6_loses 5 = .ok (.invokestatic 91, 3) := by decide +kernel
theorem dX6_loses_8 : decode cX6_loses 8 = .ok (.iconst 0, 1) := by decide +kernel
theorem dX6_loses_9 : decode cX6_loses 9 = .ok (.istore_n 3, 1) := by decide +kernel
theorem dX6_loses_10 : decode cX6_loses 10 = .ok (.iconst 0, 1) := by decide +kernel
theorem dX6_loses_11 : decode cX6_loses 11 = .ok (.istore 4, 2) := by decide +kernel
theorem dX6_loses_13 : decode cX6_loses 13 = .ok (.iload 4, 2) := by decide +kernel
theorem dX6_loses_15 : decode cX6_loses 15 = .ok (.aload_n 0, 1) := by decide +kernel
theorem dX6_loses_16 : decode cX6_loses 16 = .ok (.getfield 10, 3) := by decide +kernel
theorem dX6_loses_19 : decode cX6_loses 19 = .ok (.invokevirtual 54, 3) := by decide +kernel
theorem dX6_loses_22 : decode cX6_loses 22 = .ok (.if_icmp .ge 60, 3) := by decide +kernel
theorem dX6_loses_25 : decode cX6_loses 25 = .ok (.iload 4, 2) := by decide +kernel
theorem dX6_loses_27 : decode cX6_loses 27 = .ok (.iconst 1, 1) := by decide +kernel
theorem dX6_loses_28 : decode cX6_loses 28 = .ok (.iadd, 1) := by decide +kernel
theorem dX6_loses_29 : decode cX6_loses 29 = .ok (.istore 5, 2) := by decide +kernel
theorem dX6_loses_31 : decode cX6_loses 31 = .ok (.iload 5, 2) := by decide +kernel
theorem dX6_loses_33 : decode cX6_loses 33 = .ok (.aload_n 0, 1) := by decide +kernel
theorem dX6_loses_34 : decode cX6_loses 34 = .ok (.getfield 10, 3) := by decide +kernel
theorem dX6_loses_37 : decode cX6_loses 37 = .ok (.invokevirtual 54, 3) := by decide +kernel
theorem dX6_loses_40 : decode cX6_loses 40 = .ok (.if_icmp .ge 36, 3) := by decide +kernel
theorem dX6_loses_43 : decode cX6_loses 43 = .ok (.aload_n 0, 1) := by decide +kernel
theorem dX6_loses_44 : decode cX6_loses 44 = .ok (.iload_n 1, 1) := by decide +kernel
theorem dX6_loses_45 : decode cX6_loses 45 = .ok (.iload 4, 2) := by decide +kernel
theorem dX6_loses_47 : decode cX6_loses 47 = .ok (.iload 5, 2) := by decide +kernel
theorem dX6_loses_49 : decode cX6_loses 49 = .ok (.invokevirtual 98, 3) := by decide +kernel
theorem dX6_loses_52 : decode cX6_loses 52 = .ok (.ifCond .eq 18, 3) := by decide +kernel
theorem dX6_loses_55 : decode cX6_loses 55 = .ok (.aload_n 0, 1) := by decide +kernel
theorem dX6_loses_56 : decode cX6_loses 56 = .ok (.iload_n 2, 1) := by decide +kernel
theorem dX6_loses_57 : decode cX6_loses 57 = .ok (.iload 4, 2) := by decide +kernel
theorem dX6_loses_59 : decode cX6_loses 59 = .ok (.iload 5, 2) := by decide +kernel
theorem dX6_loses_61 : decode cX6_loses 61 = .ok (.invokevirtual 98, 3) := by decide +kernel
theorem dX6_loses_64 : decode cX6_loses 64 = .ok (.ifCond .ne 6, 3) := by decide +kernel
theorem dX6_loses_67 : decode cX6_loses 67 = .ok (.iinc 3 1, 3) := by decide +kernel
theorem dX6_loses_70 : decode cX6_loses 70 = .ok (.iinc 5 1, 3) := by decide +kernel
theorem dX6_loses_73 : decode cX6_loses 73 = .ok (.goto (-42), 3) := by decide +kernel
theorem dX6_loses_76 : decode cX6_loses 76 = .ok (.iinc 4 1, 3) := by decide +kernel
theorem dX6_loses_79 : decode cX6_loses 79 = .ok (.goto (-66), 3) := by decide +kernel
theorem dX6_loses_82 : decode cX6_loses 82 = .ok (.iload_n 3, 1) := by decide +kernel
theorem dX6_loses_83 : decode cX6_loses 83 = .ok (.ireturn, 1) := by decide +kernel
theorem dX6_tellsApart_0 : decode cX6_tellsApart 0 = .ok (.iload_n 1, 1) := by decide +kernel
theorem dX6_tellsApart_1 : decode cX6_tellsApart 1 = .ok (.aload_n 0, 1) := by decide +kernel
theorem dX6_tellsApart_2 : decode cX6_tellsApart 2 = .ok (.getfield 10, 3) := by decide +kernel
theorem dX6_tellsApart_5 : decode cX6_tellsApart 5 = .ok (.iload_n 2, 1) := by decide +kernel
theorem dX6_tellsApart_6 : decode cX6_tellsApart 6 = .ok (.invokevirtual 84, 3) := by decide +kernel
theorem dX6_tellsApart_9 : decode cX6_tellsApart 9 = .ok (.checkcast 63, 3) := by decide +kernel
theorem dX6_tellsApart_12 : decode cX6_tellsApart 12 = .ok (.invokestatic 94, 3) := by decide +kernel
theorem dX6_tellsApart_15 : decode cX6_tellsApart 15 = .ok (.iload_n 1, 1) := by decide +kernel
theorem dX6_tellsApart_16 : decode cX6_tellsApart 16 = .ok (.aload_n 0, 1) := by decide +kernel
theorem dX6_tellsApart_17 : decode cX6_tellsApart 17 = .ok (.getfield 10, 3) := by decide +kernel
theorem dX6_tellsApart_20 : decode cX6_tellsApart 20 = .ok (.iload_n 3, 1) := by decide +kernel
theorem dX6_tellsApart_21 : decode cX6_tellsApart 21 = .ok (.invokevirtual 84, 3) := by decide +kernel
theorem dX6_tellsApart_24 : decode cX6_tellsApart 24 = .ok (.checkcast 63, 3) := by decide +kernel
theorem dX6_tellsApart_27 : decode cX6_tellsApart 27 = .ok (.invokestatic 94, 3) := by decide +kernel
theorem dX6_tellsApart_30 : decode cX6_tellsApart 30 = .ok (.if_icmp .eq 7, 3) := by decide +kernel
theorem dX6_tellsApart_33 : decode cX6_tellsApart 33 = .ok (.iconst 1, 1) := by decide +kernel
theorem dX6_tellsApart_34 : decode cX6_tellsApart 34 = .ok (.goto 4, 3) := by decide +kernel
theorem dX6_tellsApart_37 : decode cX6_tellsApart 37 = .ok (.iconst 0, 1) := by decide +kernel
theorem dX6_tellsApart_38 : decode cX6_tellsApart 38 = .ok (.ireturn, 1) := by decide +kernel
theorem dX6_numberBy_0 : decode cX6_numberBy 0 = .ok (.iload_n 0, 1) := by decide +kernel
theorem dX6_numberBy_1 : decode cX6_numberBy 1 = .ok (.lookupswitch 76 #[(0, 27), (1, 48)], 27) := by decide +kernel
theorem dX6_numberBy_28 : decode cX6_numberBy 28 = .ok (.bipush 81, 2) := by decide +kernel
theorem dX6_numberBy_30 : decode cX6_numberBy 30 = .ok (.aload_n 1, 1) := by decide +kernel
theorem dX6_numberBy_31 : decode cX6_numberBy 31 = .ok (.getfield 102, 3) := by decide +kernel
theorem dX6_numberBy_34 : decode cX6_numberBy 34 = .ok (.imul, 1) := by decide +kernel
theorem dX6_numberBy_35 : decode cX6_numberBy 35 = .ok (.bipush 9, 2) := by decide +kernel
theorem dX6_numberBy_37 : decode cX6_numberBy 37 = .ok (.aload_n 1, 1) := by decide +kernel
theorem dX6_numberBy_38 : decode cX6_numberBy 38 = .ok (.getfield 106, 3) := by decide +kernel
theorem dX6_numberBy_41 : decode cX6_numberBy 41 = .ok (.imul, 1) := by decide +kernel
theorem dX6_numberBy_42 : decode cX6_numberBy 42 = .ok (.iadd, 1) := by decide +kernel
theorem dX6_numberBy_43 : decode cX6_numberBy 43 = .ok (.aload_n 1, 1) := by decide +kernel
theorem dX6_numberBy_44 : decode cX6_numberBy 44 = .ok (.getfield 109, 3) := by decide +kernel
theorem dX6_numberBy_47 : decode cX6_numberBy 47 = .ok (.iadd, 1) := by decide +kernel
theorem dX6_numberBy_48 : decode cX6_numberBy 48 = .ok (.ireturn, 1) := by decide +kernel
theorem dX6_numberBy_49 : decode cX6_numberBy 49 = .ok (.bipush 48, 2) := by decide +kernel
theorem dX6_numberBy_51 : decode cX6_numberBy 51 = .ok (.aload_n 1, 1) := by decide +kernel
theorem dX6_numberBy_52 : decode cX6_numberBy 52 = .ok (.getfield 102, 3) := by decide +kernel
theorem dX6_numberBy_55 : decode cX6_numberBy 55 = .ok (.imul, 1) := by decide +kernel
theorem dX6_numberBy_56 : decode cX6_numberBy 56 = .ok (.bipush 12, 2) := by decide +kernel
theorem dX6_numberBy_58 : decode cX6_numberBy 58 = .ok (.aload_n 1, 1) := by decide +kernel
theorem dX6_numberBy_59 : decode cX6_numberBy 59 = .ok (.getfield 112, 3) := by decide +kernel
theorem dX6_numberBy_62 : decode cX6_numberBy 62 = .ok (.imul, 1) := by decide +kernel
theorem dX6_numberBy_63 : decode cX6_numberBy 63 = .ok (.iadd, 1) := by decide +kernel
theorem dX6_numberBy_64 : decode cX6_numberBy 64 = .ok (.iconst 3, 1) := by decide +kernel
theorem dX6_numberBy_65 : decode cX6_numberBy 65 = .ok (.aload_n 1, 1) := by decide +kernel
theorem dX6_numberBy_66 : decode cX6_numberBy 66 = .ok (.getfield 115, 3) := by decide +kernel
theorem dX6_numberBy_69 : decode cX6_numberBy 69 = .ok (.imul, 1) := by decide +kernel
theorem dX6_numberBy_70 : decode cX6_numberBy 70 = .ok (.iadd, 1) := by decide +kernel
theorem dX6_numberBy_71 : decode cX6_numberBy 71 = .ok (.aload_n 1, 1) := by decide +kernel
theorem dX6_numberBy_72 : decode cX6_numberBy 72 = .ok (.getfield 118, 3) := by decide +kernel
theorem dX6_numberBy_75 : decode cX6_numberBy 75 = .ok (.iadd, 1) := by decide +kernel
theorem dX6_numberBy_76 : decode cX6_numberBy 76 = .ok (.ireturn, 1) := by decide +kernel
theorem dX6_numberBy_77 : decode cX6_numberBy 77 = .ok (.aload_n 1, 1) := by decide +kernel
theorem dX6_numberBy_78 : decode cX6_numberBy 78 = .ok (.getfield 102, 3) := by decide +kernel
theorem dX6_numberBy_81 : decode cX6_numberBy 81 = .ok (.iconst 4, 1) := by decide +kernel
theorem dX6_numberBy_82 : decode cX6_numberBy 82 = .ok (.if_icmp .ge 8, 3) := by decide +kernel
theorem dX6_numberBy_85 : decode cX6_numberBy 85 = .ok (.bipush 9, 2) := by decide +kernel
theorem dX6_numberBy_87 : decode cX6_numberBy 87 = .ok (.goto 4, 3) := by decide +kernel
theorem dX6_numberBy_90 : decode cX6_numberBy 90 = .ok (.iconst 0, 1) := by decide +kernel
theorem dX6_numberBy_91 : decode cX6_numberBy 91 = .ok (.istore_n 2, 1) := by decide +kernel
theorem dX6_numberBy_92 : decode cX6_numberBy 92 = .ok (.aload_n 1, 1) := by decide +kernel
theorem dX6_numberBy_93 : decode cX6_numberBy 93 = .ok (.getfield 106, 3) := by decide +kernel
theorem dX6_numberBy_96 : decode cX6_numberBy 96 = .ok (.invokestatic 121, 3) := by decide +kernel
theorem dX6_numberBy_99 : decode cX6_numberBy 99 = .ok (.aload_n 1, 1) := by decide +kernel
theorem dX6_numberBy_100 : decode cX6_numberBy 100 = .ok (.getfield 109, 3) := by decide +kernel
theorem dX6_numberBy_103 : decode cX6_numberBy 103 = .ok (.invokestatic 121, 3) := by decide +kernel
theorem dX6_numberBy_106 : decode cX6_numberBy 106 = .ok (.invokestatic 125, 3) := by decide +kernel
theorem dX6_numberBy_109 : decode cX6_numberBy 109 = .ok (.iconst 1, 1) := by decide +kernel
theorem dX6_numberBy_110 : decode cX6_numberBy 110 = .ok (.iadd, 1) := by decide +kernel
theorem dX6_numberBy_111 : decode cX6_numberBy 111 = .ok (.istore_n 3, 1) := by decide +kernel
theorem dX6_numberBy_112 : decode cX6_numberBy 112 = .ok (.aload_n 1, 1) := by decide +kernel
theorem dX6_numberBy_113 : decode cX6_numberBy 113 = .ok (.getfield 106, 3) := by decide +kernel
theorem dX6_numberBy_116 : decode cX6_numberBy 116 = .ok (.invokestatic 129, 3) := by decide +kernel
theorem dX6_numberBy_119 : decode cX6_numberBy 119 = .ok (.aload_n 1, 1) := by decide +kernel
theorem dX6_numberBy_120 : decode cX6_numberBy 120 = .ok (.getfield 109, 3) := by decide +kernel
theorem dX6_numberBy_123 : decode cX6_numberBy 123 = .ok (.invokestatic 129, 3) := by decide +kernel
theorem dX6_numberBy_126 : decode cX6_numberBy 126 = .ok (.invokestatic 125, 3) := by decide +kernel
theorem dX6_numberBy_129 : decode cX6_numberBy 129 = .ok (.iconst 1, 1) := by decide +kernel
theorem dX6_numberBy_130 : decode cX6_numberBy 130 = .ok (.iadd, 1) := by decide +kernel
theorem dX6_numberBy_131 : decode cX6_numberBy 131 = .ok (.istore 4, 2) := by decide +kernel
theorem dX6_numberBy_133 : decode cX6_numberBy 133 = .ok (.iload_n 2, 1) := by decide +kernel
theorem dX6_numberBy_134 : decode cX6_numberBy 134 = .ok (.iconst 3, 1) := by decide +kernel
theorem dX6_numberBy_135 : decode cX6_numberBy 135 = .ok (.iload_n 3, 1) := by decide +kernel
theorem dX6_numberBy_136 : decode cX6_numberBy 136 = .ok (.imul, 1) := by decide +kernel
theorem dX6_numberBy_137 : decode cX6_numberBy 137 = .ok (.iadd, 1) := by decide +kernel
theorem dX6_numberBy_138 : decode cX6_numberBy 138 = .ok (.iload 4, 2) := by decide +kernel
theorem dX6_numberBy_140 : decode cX6_numberBy 140 = .ok (.iadd, 1) := by decide +kernel
theorem dX6_numberBy_141 : decode cX6_numberBy 141 = .ok (.ireturn, 1) := by decide +kernel
theorem dX6_isPossibleBase_0 : decode cX6_isPossibleBase 0 = .ok (.iload_n 1, 1) := by decide +kernel
theorem dX6_isPossibleBase_1 : decode cX6_isPossibleBase 1 = .ok (.iload_n 0, 1) := by decide +kernel
theorem dX6_isPossibleBase_2 : decode cX6_isPossibleBase 2 = .ok (.if_icmp .eq 11, 3) := by decide +kernel
theorem dX6_isPossibleBase_5 : decode cX6_isPossibleBase 5 = .ok (.iload_n 1, 1) := by decide +kernel
theorem dX6_isPossibleBase_6 : decode cX6_isPossibleBase 6 = .ok (.iconst 4, 1) := by decide +kernel
theorem dX6_isPossibleBase_7 : decode cX6_isPossibleBase 7 = .ok (.invokestatic 38, 3) := by decide +kernel
theorem dX6_isPossibleBase_10 : decode cX6_isPossibleBase 10 = .ok (.ifCond .eq 7, 3) := by decide +kernel
theorem dX6_isPossibleBase_13 : decode cX6_isPossibleBase 13 = .ok (.iconst 1, 1) := by decide +kernel
theorem dX6_isPossibleBase_14 : decode cX6_isPossibleBase 14 = .ok (.goto 4, 3) := by decide +kernel
theorem dX6_isPossibleBase_17 : decode cX6_isPossibleBase 17 = .ok (.iconst 0, 1) := by decide +kernel
theorem dX6_isPossibleBase_18 : decode cX6_isPossibleBase 18 = .ok (.ireturn, 1) := by decide +kernel
theorem dX6_firstSignJustLike_0 : decode cX6_firstSignJustLike 0 = .ok (.iconst 0, 1) := by decide +kernel
theorem dX6_firstSignJustLike_1 : decode cX6_firstSignJustLike 1 = .ok (.istore_n 2, 1) := by decide +kernel
theorem dX6_firstSignJustLike_2 : decode cX6_firstSignJustLike 2 = .ok (.iload_n 2, 1) := by decide +kernel
theorem dX6_firstSignJustLike_3 : decode cX6_firstSignJustLike 3 = .ok (.aload_n 0, 1) := by decide +kernel
theorem dX6_firstSignJustLike_4 : decode cX6_firstSignJustLike 4 = .ok (.getfield 10, 3) := by decide +kernel
theorem dX6_firstSignJustLike_7 : decode cX6_firstSignJustLike 7 = .ok (.invokevirtual 54, 3) := by decide +kernel
theorem dX6_firstSignJustLike_10 : decode cX6_firstSignJustLike 10 = .ok (.if_icmp .ge 29, 3) := by decide +kernel
theorem dX6_firstSignJustLike_13 : decode cX6_firstSignJustLike 13 = .ok (.aload_n 0, 1) := by decide +kernel
theorem dX6_firstSignJustLike_14 : decode cX6_firstSignJustLike 14 = .ok (.getfield 10, 3) := by decide +kernel
theorem dX6_firstSignJustLike_17 : decode cX6_firstSignJustLike 17 = .ok (.iload_n 2, 1) := by decide +kernel
theorem dX6_firstSignJustLike_18 : decode cX6_firstSignJustLike 18 = .ok (.invokevirtual 84, 3) := by decide +kernel
theorem dX6_firstSignJustLike_21 : decode cX6_firstSignJustLike 21 = .ok (.checkcast 63, 3) := by decide +kernel
theorem dX6_firstSignJustLike_24 : decode cX6_firstSignJustLike 24 = .ok (.aload_n 1, 1) := by decide +kernel
theorem dX6_firstSignJustLike_25 : decode cX6_firstSignJustLike 25 = .ok (.invokevirtual 132, 3) := by decide +kernel
theorem dX6_firstSignJustLike_28 : decode cX6_firstSignJustLike 28 = .ok (.ifCond .eq 5, 3) := by decide +kernel
theorem dX6_firstSignJustLike_31 : decode cX6_firstSignJustLike 31 = .ok (.iload_n 2, 1) := by decide +kernel
theorem dX6_firstSignJustLike_32 : decode cX6_firstSignJustLike 32 = .ok (.ireturn, 1) := by decide +kernel
theorem dX6_firstSignJustLike_33 : decode cX6_firstSignJustLike 33 = .ok (.iinc 2 1, 3) := by decide +kernel
theorem dX6_firstSignJustLike_36 : decode cX6_firstSignJustLike 36 = .ok (.goto (-34), 3) := by decide +kernel
theorem dX6_firstSignJustLike_39 : decode cX6_firstSignJustLike 39 = .ok (.iconst (-1), 1) := by decide +kernel
theorem dX6_firstSignJustLike_40 : decode cX6_firstSignJustLike 40 = .ok (.ireturn, 1) := by decide +kernel
theorem dX6_countSignsJustLike_0 : decode cX6_countSignsJustLike 0 = .ok (.iconst 0, 1) := by decide +kernel
theorem dX6_countSignsJustLike_1 : decode cX6_countSignsJustLike 1 = .ok (.istore_n 2, 1) := by decide +kernel
theorem dX6_countSignsJustLike_2 : decode cX6_countSignsJustLike 2 = .ok (.iconst 0, 1) := by decide +kernel
theorem dX6_countSignsJustLike_3 : decode cX6_countSignsJustLike 3 = .ok (.istore_n 3, 1) := by decide +kernel
theorem dX6_countSignsJustLike_4 : decode cX6_countSignsJustLike 4 = .ok (.iload_n 3, 1) := by decide +kernel
theorem dX6_countSignsJustLike_5 : decode cX6_countSignsJustLike 5 = .ok (.aload_n 0, 1) := by decide +kernel
theorem dX6_countSignsJustLike_6 : decode cX6_countSignsJustLike 6 = .ok (.getfield 10, 3) := by decide +kernel
theorem dX6_countSignsJustLike_9 : decode cX6_countSignsJustLike 9 = .ok (.invokevirtual 54, 3) := by decide +kernel
theorem dX6_countSignsJustLike_12 : decode cX6_countSignsJustLike 12 = .ok (.if_icmp .ge 30, 3) := by decide +kernel
theorem dX6_countSignsJustLike_15 : decode cX6_countSignsJustLike 15 = .ok (.aload_n 0, 1) := by decide +kernel
theorem dX6_countSignsJustLike_16 : decode cX6_countSignsJustLike 16 = .ok (.getfield 10, 3) := by decide +kernel
theorem dX6_countSignsJustLike_19 : decode cX6_countSignsJustLike 19 = .ok (.iload_n 3, 1) := by decide +kernel
theorem dX6_countSignsJustLike_20 : decode cX6_countSignsJustLike 20 = .ok (.invokevirtual 84, 3) := by decide +kernel
theorem dX6_countSignsJustLike_23 : decode cX6_countSignsJustLike 23 = .ok (.checkcast 63, 3) := by decide +kernel
theorem dX6_countSignsJustLike_26 : decode cX6_countSignsJustLike 26 = .ok (.aload_n 1, 1) := by decide +kernel
theorem dX6_countSignsJustLike_27 : decode cX6_countSignsJustLike 27 = .ok (.invokevirtual 132, 3) := by decide +kernel
theorem dX6_countSignsJustLike_30 : decode cX6_countSignsJustLike 30 = .ok (.ifCond .eq 6, 3) := by decide +kernel
theorem dX6_countSignsJustLike_33 : decode cX6_countSignsJustLike 33 = .ok (.iinc 2 1, 3) := by decide +kernel
theorem dX6_countSignsJustLike_36 : decode cX6_countSignsJustLike 36 = .ok (.iinc 3 1, 3) := by decide +kernel
theorem dX6_countSignsJustLike_39 : decode cX6_countSignsJustLike 39 = .ok (.goto (-35), 3) := by decide +kernel
theorem dX6_countSignsJustLike_42 : decode cX6_countSignsJustLike 42 = .ok (.iload_n 2, 1) := by decide +kernel
theorem dX6_countSignsJustLike_43 : decode cX6_countSignsJustLike 43 = .ok (.ireturn, 1) := by decide +kernel
theorem dX6_isSign_0 : decode cX6_isSign 0 = .ok (.iload_n 1, 1) := by decide +kernel
theorem dX6_isSign_1 : decode cX6_isSign 1 = .ok (.aload_n 0, 1) := by decide +kernel
theorem dX6_isSign_2 : decode cX6_isSign 2 = .ok (.getfield 10, 3) := by decide +kernel
theorem dX6_isSign_5 : decode cX6_isSign 5 = .ok (.invokevirtual 54, 3) := by decide +kernel
theorem dX6_isSign_8 : decode cX6_isSign 8 = .ok (.invokestatic 38, 3) := by decide +kernel
theorem dX6_isSign_11 : decode cX6_isSign 11 = .ok (.ireturn, 1) := by decide +kernel
theorem dX6_requireSign_0 : decode cX6_requireSign 0 = .ok (.aload_n 0, 1) := by decide +kernel
theorem dX6_requireSign_1 : decode cX6_requireSign 1 = .ok (.iload_n 1, 1) := by decide +kernel
theorem dX6_requireSign_2 : decode cX6_requireSign 2 = .ok (.invokevirtual 136, 3) := by decide +kernel
theorem dX6_requireSign_5 : decode cX6_requireSign 5 = .ok (.ifCond .ne 13, 3) := by decide +kernel
theorem dX6_requireSign_8 : decode cX6_requireSign 8 = .ok (.new 140, 3) := by decide +kernel
theorem dX6_requireSign_11 : decode cX6_requireSign 11 = .ok (.dup, 1) := by decide +kernel
theorem dX6_requireSign_12 : decode cX6_requireSign 12 = .ok (.ldc 142, 2) := by decide +kernel
theorem dX6_requireSign_14 : decode cX6_requireSign 14 = .ok (.invokespecial 144, 3) := by decide +kernel
theorem dX6_requireSign_17 : decode cX6_requireSign 17 = .ok (.athrow, 1) := by decide +kernel
theorem dX6_requireSign_18 : decode cX6_requireSign 18 = .ok (.return_, 1) := by decide +kernel
theorem dX6_requireSchool_0 : decode cX6_requireSchool 0 = .ok (.iload_n 0, 1) := by decide +kernel
theorem dX6_requireSchool_1 : decode cX6_requireSchool 1 = .ok (.iconst 3, 1) := by decide +kernel
theorem dX6_requireSchool_2 : decode cX6_requireSchool 2 = .ok (.invokestatic 38, 3) := by decide +kernel
theorem dX6_requireSchool_5 : decode cX6_requireSchool 5 = .ok (.ifCond .ne 13, 3) := by decide +kernel
theorem dX6_requireSchool_8 : decode cX6_requireSchool 8 = .ok (.new 42, 3) := by decide +kernel
theorem dX6_requireSchool_11 : decode cX6_requireSchool 11 = .ok (.dup, 1) := by decide +kernel
theorem dX6_requireSchool_12 : decode cX6_requireSchool 12 = .ok (.ldc 145, 2) := by decide +kernel
theorem dX6_requireSchool_14 : decode cX6_requireSchool 14 = .ok (.invokespecial 46, 3) := by decide +kernel
theorem dX6_requireSchool_17 : decode cX6_requireSchool 17 = .ok (.athrow, 1) := by decide +kernel
theorem dX6_requireSchool_18 : decode cX6_requireSchool 18 = .ok (.return_, 1) := by decide +kernel
theorem dX6_item_0 : decode cX6_item 0 = .ok (.aload_n 0, 1) := by decide +kernel
theorem dX6_item_1 : decode cX6_item 1 = .ok (.iload_n 1, 1) := by decide +kernel
theorem dX6_item_2 : decode cX6_item 2 = .ok (.iload_n 2, 1) := by decide +kernel
theorem dX6_item_3 : decode cX6_item 3 = .ok (.iload_n 3, 1) := by decide +kernel
theorem dX6_item_4 : decode cX6_item 4 = .ok (.iload 4, 2) := by decide +kernel
theorem dX6_item_6 : decode cX6_item 6 = .ok (.invokevirtual 147, 3) := by decide +kernel
theorem dX6_item_9 : decode cX6_item 9 = .ok (.ifCond .ne 13, 3) := by decide +kernel
theorem dX6_item_12 : decode cX6_item 12 = .ok (.new 140, 3) := by decide +kernel
theorem dX6_item_15 : decode cX6_item 15 = .ok (.dup, 1) := by decide +kernel
theorem dX6_item_16 : decode cX6_item 16 = .ok (.ldc 151, 2) := by decide +kernel
theorem dX6_item_18 : decode cX6_item 18 = .ok (.invokespecial 144, 3) := by decide +kernel
theorem dX6_item_21 : decode cX6_item 21 = .ok (.athrow, 1) := by decide +kernel
theorem dX6_item_22 : decode cX6_item 22 = .ok (.iload_n 1, 1) := by decide +kernel
theorem dX6_item_23 : decode cX6_item 23 = .ok (.iload_n 2, 1) := by decide +kernel
theorem dX6_item_24 : decode cX6_item 24 = .ok (.iload_n 3, 1) := by decide +kernel
theorem dX6_item_25 : decode cX6_item 25 = .ok (.iload 4, 2) := by decide +kernel
theorem dX6_item_27 : decode cX6_item 27 = .ok (.invokestatic 153, 3) := by decide +kernel
theorem dX6_item_30 : decode cX6_item 30 = .ok (.ifCond .ne 13, 3) := by decide +kernel
theorem dX6_item_33 : decode cX6_item 33 = .ok (.new 42, 3) := by decide +kernel
theorem dX6_item_36 : decode cX6_item 36 = .ok (.dup, 1) := by decide +kernel
theorem dX6_item_37 : decode cX6_item 37 = .ok (.ldc 156, 2) := by decide +kernel
theorem dX6_item_39 : decode cX6_item 39 = .ok (.invokespecial 46, 3) := by decide +kernel
theorem dX6_item_42 : decode cX6_item 42 = .ok (.athrow, 1) := by decide +kernel
theorem dX6_item_43 : decode cX6_item 43 = .ok (.aload_n 0, 1) := by decide +kernel
theorem dX6_item_44 : decode cX6_item 44 = .ok (.getfield 16, 3) := by decide +kernel
theorem dX6_item_47 : decode cX6_item 47 = .ok (.invokevirtual 54, 3) := by decide +kernel
theorem dX6_item_50 : decode cX6_item 50 = .ok (.bipush 14, 2) := by decide +kernel
theorem dX6_item_52 : decode cX6_item 52 = .ok (.if_icmp .lt 13, 3) := by decide +kernel
theorem dX6_item_55 : decode cX6_item 55 = .ok (.new 58, 3) := by decide +kernel
theorem dX6_item_58 : decode cX6_item 58 = .ok (.dup, 1) := by decide +kernel
theorem dX6_item_59 : decode cX6_item 59 = .ok (.ldc 158, 2) := by decide +kernel
theorem dX6_item_61 : decode cX6_item 61 = .ok (.invokespecial 62, 3) := by decide +kernel
theorem dX6_item_64 : decode cX6_item 64 = .ok (.athrow, 1) := by decide +kernel
theorem dX6_item_65 : decode cX6_item 65 = .ok (.aload_n 0, 1) := by decide +kernel
theorem dX6_item_66 : decode cX6_item 66 = .ok (.iload_n 1, 1) := by decide +kernel
theorem dX6_item_67 : decode cX6_item 67 = .ok (.iload_n 2, 1) := by decide +kernel
theorem dX6_item_68 : decode cX6_item 68 = .ok (.iload_n 3, 1) := by decide +kernel
theorem dX6_item_69 : decode cX6_item 69 = .ok (.iload 4, 2) := by decide +kernel
theorem dX6_item_71 : decode cX6_item 71 = .ok (.invokevirtual 160, 3) := by decide +kernel
theorem dX6_item_74 : decode cX6_item 74 = .ok (.ifCond .ne 13, 3) := by decide +kernel
theorem dX6_item_77 : decode cX6_item 77 = .ok (.new 58, 3) := by decide +kernel
theorem dX6_item_80 : decode cX6_item 80 = .ok (.dup, 1) := by decide +kernel
theorem dX6_item_81 : decode cX6_item 81 = .ok (.ldc 163, 2) := by decide +kernel
theorem dX6_item_83 : decode cX6_item 83 = .ok (.invokespecial 62, 3) := by decide +kernel
theorem dX6_item_86 : decode cX6_item 86 = .ok (.athrow, 1) := by decide +kernel
theorem dX6_item_87 : decode cX6_item 87 = .ok (.aload_n 0, 1) := by decide +kernel
theorem dX6_item_88 : decode cX6_item 88 = .ok (.getfield 16, 3) := by decide +kernel
theorem dX6_item_91 : decode cX6_item 91 = .ok (.new 165, 3) := by decide +kernel
theorem dX6_item_94 : decode cX6_item 94 = .ok (.dup, 1) := by decide +kernel
theorem dX6_item_95 : decode cX6_item 95 = .ok (.iload_n 1, 1) := by decide +kernel
theorem dX6_item_96 : decode cX6_item 96 = .ok (.iload_n 2, 1) := by decide +kernel
theorem dX6_item_97 : decode cX6_item 97 = .ok (.iload_n 3, 1) := by decide +kernel
theorem dX6_item_98 : decode cX6_item 98 = .ok (.aload_n 0, 1) := by decide +kernel
theorem dX6_item_99 : decode cX6_item 99 = .ok (.iload_n 1, 1) := by decide +kernel
theorem dX6_item_100 : decode cX6_item 100 = .ok (.iload_n 2, 1) := by decide +kernel
theorem dX6_item_101 : decode cX6_item 101 = .ok (.iload_n 3, 1) := by decide +kernel
theorem dX6_item_102 : decode cX6_item 102 = .ok (.iload 4, 2) := by decide +kernel
theorem dX6_item_104 : decode cX6_item 104 = .ok (.invokevirtual 167, 3) := by decide +kernel
theorem dX6_item_107 : decode cX6_item 107 = .ok (.invokespecial 171, 3) := by decide +kernel
theorem dX6_item_110 : decode cX6_item 110 = .ok (.invokevirtual 74, 3) := by decide +kernel
theorem dX6_item_113 : decode cX6_item 113 = .ok (.pop, 1) := by decide +kernel
theorem dX6_item_114 : decode cX6_item 114 = .ok (.aload_n 0, 1) := by decide +kernel
theorem dX6_item_115 : decode cX6_item 115 = .ok (.getfield 16, 3) := by decide +kernel
theorem dX6_item_118 : decode cX6_item 118 = .ok (.invokevirtual 54, 3) := by decide +kernel
theorem dX6_item_121 : decode cX6_item 121 = .ok (.ireturn, 1) := by decide +kernel
theorem dX6_clear_0 : decode cX6_clear 0 = .ok (.aload_n 0, 1) := by decide +kernel
theorem dX6_clear_1 : decode cX6_clear 1 = .ok (.getfield 16, 3) := by decide +kernel
theorem dX6_clear_4 : decode cX6_clear 4 = .ok (.invokevirtual 54, 3) := by decide +kernel
theorem dX6_clear_7 : decode cX6_clear 7 = .ok (.istore_n 1, 1) := by decide +kernel
theorem dX6_clear_8 : decode cX6_clear 8 = .ok (.aload_n 0, 1) := by decide +kernel
theorem dX6_clear_9 : decode cX6_clear 9 = .ok (.getfield 16, 3) := by decide +kernel
theorem dX6_clear_12 : decode cX6_clear 12 = .ok (.invokevirtual 174, 3) := by decide +kernel
theorem dX6_clear_15 : decode cX6_clear 15 = .ok (.aload_n 0, 1) := by decide +kernel
theorem dX6_clear_16 : decode cX6_clear 16 = .ok (.getfield 19, 3) := by decide +kernel
theorem dX6_clear_19 : decode cX6_clear 19 = .ok (.invokevirtual 174, 3) := by decide +kernel
theorem dX6_clear_22 : decode cX6_clear 22 = .ok (.iload_n 1, 1) := by decide +kernel
theorem dX6_clear_23 : decode cX6_clear 23 = .ok (.ireturn, 1) := by decide +kernel
theorem dX6_face_0 : decode cX6_face 0 = .ok (.aload_n 0, 1) := by decide +kernel
theorem dX6_face_1 : decode cX6_face 1 = .ok (.iload_n 2, 1) := by decide +kernel
theorem dX6_face_2 : decode cX6_face 2 = .ok (.invokevirtual 177, 3) := by decide +kernel
theorem dX6_face_5 : decode cX6_face 5 = .ok (.aload_n 0, 1) := by decide +kernel
theorem dX6_face_6 : decode cX6_face 6 = .ok (.iload_n 3, 1) := by decide +kernel
theorem dX6_face_7 : decode cX6_face 7 = .ok (.invokevirtual 177, 3) := by decide +kernel
theorem dX6_face_10 : decode cX6_face 10 = .ok (.iload_n 1, 1) := by decide +kernel
theorem dX6_face_11 : decode cX6_face 11 = .ok (.iconst 4, 1) := by decide +kernel
theorem dX6_face_12 : decode cX6_face 12 = .ok (.invokestatic 38, 3) := by decide +kernel
theorem dX6_face_15 : decode cX6_face 15 = .ok (.ifCond .eq 8, 3) := by decide +kernel
theorem dX6_face_18 : decode cX6_face 18 = .ok (.iload_n 3, 1) := by decide +kernel
theorem dX6_face_19 : decode cX6_face 19 = .ok (.iload_n 2, 1) := by decide +kernel
theorem dX6_face_20 : decode cX6_face 20 = .ok (.if_icmp .ge 13, 3) := by decide +kernel
theorem dX6_face_23 : decode cX6_face 23 = .ok (.new 42, 3) := by decide +kernel
theorem dX6_face_26 : decode cX6_face 26 = .ok (.dup, 1) := by decide +kernel
theorem dX6_face_27 : decode cX6_face 27 = .ok (.ldc 180, 2) := by decide +kernel
theorem dX6_face_29 : decode cX6_face 29 = .ok (.invokespecial 46, 3) := by decide +kernel
theorem dX6_face_32 : decode cX6_face 32 = .ok (.athrow, 1) := by decide +kernel
theorem dX6_face_33 : decode cX6_face 33 = .ok (.aload_n 0, 1) := by decide +kernel
theorem dX6_face_34 : decode cX6_face 34 = .ok (.getfield 19, 3) := by decide +kernel
theorem dX6_face_37 : decode cX6_face 37 = .ok (.invokevirtual 54, 3) := by decide +kernel
theorem dX6_face_40 : decode cX6_face 40 = .ok (.bipush 8, 2) := by decide +kernel
theorem dX6_face_42 : decode cX6_face 42 = .ok (.if_icmp .lt 13, 3) := by decide +kernel
theorem dX6_face_45 : decode cX6_face 45 = .ok (.new 58, 3) := by decide +kernel
theorem dX6_face_48 : decode cX6_face 48 = .ok (.dup, 1) := by decide +kernel
theorem dX6_face_49 : decode cX6_face 49 = .ok (.ldc 182, 2) := by decide +kernel
theorem dX6_face_51 : decode cX6_face 51 = .ok (.invokespecial 62, 3) := by decide +kernel
theorem dX6_face_54 : decode cX6_face 54 = .ok (.athrow, 1) := by decide +kernel
theorem dX6_face_55 : decode cX6_face 55 = .ok (.aload_n 0, 1) := by decide +kernel
theorem dX6_face_56 : decode cX6_face 56 = .ok (.iload_n 1, 1) := by decide +kernel
theorem dX6_face_57 : decode cX6_face 57 = .ok (.invokestatic 184, 3) := by decide +kernel
theorem dX6_face_60 : decode cX6_face 60 = .ok (.iload_n 2, 1) := by decide +kernel
theorem dX6_face_61 : decode cX6_face 61 = .ok (.iload_n 3, 1) := by decide +kernel
theorem dX6_face_62 : decode cX6_face 62 = .ok (.invokevirtual 187, 3) := by decide +kernel
theorem dX6_face_65 : decode cX6_face 65 = .ok (.ifCond .eq 13, 3) := by decide +kernel
theorem dX6_face_68 : decode cX6_face 68 = .ok (.new 58, 3) := by decide +kernel
theorem dX6_face_71 : decode cX6_face 71 = .ok (.dup, 1) := by decide +kernel
theorem dX6_face_72 : decode cX6_face 72 = .ok (.ldc 190, 2) := by decide +kernel
theorem dX6_face_74 : decode cX6_face 74 = .ok (.invokespecial 62, 3) := by decide +kernel
theorem dX6_face_77 : decode cX6_face 77 = .ok (.athrow, 1) := by decide +kernel
theorem dX6_face_78 : decode cX6_face 78 = .ok (.aload_n 0, 1) := by decide +kernel
theorem dX6_face_79 : decode cX6_face 79 = .ok (.getfield 19, 3) := by decide +kernel
theorem dX6_face_82 : decode cX6_face 82 = .ok (.new 192, 3) := by decide +kernel
theorem dX6_face_85 : decode cX6_face 85 = .ok (.dup, 1) := by decide +kernel
theorem dX6_face_86 : decode cX6_face 86 = .ok (.iload_n 1, 1) := by decide +kernel
theorem dX6_face_87 : decode cX6_face 87 = .ok (.iload_n 2, 1) := by decide +kernel
theorem dX6_face_88 : decode cX6_face 88 = .ok (.iload_n 3, 1) := by decide +kernel
theorem dX6_face_89 : decode cX6_face 89 = .ok (.invokespecial 194, 3) := by decide +kernel
theorem dX6_face_92 : decode cX6_face 92 = .ok (.invokevirtual 74, 3) := by decide +kernel
theorem dX6_face_95 : decode cX6_face 95 = .ok (.pop, 1) := by decide +kernel
theorem dX6_face_96 : decode cX6_face 96 = .ok (.aload_n 0, 1) := by decide +kernel
theorem dX6_face_97 : decode cX6_face 97 = .ok (.getfield 19, 3) := by decide +kernel
theorem dX6_face_100 : decode cX6_face 100 = .ok (.invokevirtual 54, 3) := by decide +kernel
theorem dX6_face_103 : decode cX6_face 103 = .ok (.ireturn, 1) := by decide +kernel
theorem dX6_shown_0 : decode cX6_shown 0 = .ok (.aload_n 0, 1) := by decide +kernel
theorem dX6_shown_1 : decode cX6_shown 1 = .ok (.iload_n 1, 1) := by decide +kernel
theorem dX6_shown_2 : decode cX6_shown 2 = .ok (.invokevirtual 177, 3) := by decide +kernel
theorem dX6_shown_5 : decode cX6_shown 5 = .ok (.iload_n 2, 1) := by decide +kernel
theorem dX6_shown_6 : decode cX6_shown 6 = .ok (.iconst 3, 1) := by decide +kernel
theorem dX6_shown_7 : decode cX6_shown 7 = .ok (.invokestatic 38, 3) := by decide +kernel
theorem dX6_shown_10 : decode cX6_shown 10 = .ok (.ifCond .ne 13, 3) := by decide +kernel
theorem dX6_shown_13 : decode cX6_shown 13 = .ok (.new 42, 3) := by decide +kernel
theorem dX6_shown_16 : decode cX6_shown 16 = .ok (.dup, 1) := by decide +kernel
theorem dX6_shown_17 : decode cX6_shown 17 = .ok (.ldc 197, 2) := by decide +kernel
theorem dX6_shown_19 : decode cX6_shown 19 = .ok (.invokespecial 46, 3) := by decide +kernel
theorem dX6_shown_22 : decode cX6_shown 22 = .ok (.athrow, 1) := by decide +kernel
theorem dX6_shown_23 : decode cX6_shown 23 = .ok (.aload_n 0, 1) := by decide +kernel
theorem dX6_shown_24 : decode cX6_shown 24 = .ok (.iload_n 1, 1) := by decide +kernel
theorem dX6_shown_25 : decode cX6_shown 25 = .ok (.iload_n 2, 1) := by decide +kernel
theorem dX6_shown_26 : decode cX6_shown 26 = .ok (.invokevirtual 199, 3) := by decide +kernel
theorem dX6_shown_29 : decode cX6_shown 29 = .ok (.ireturn, 1) := by decide +kernel
theorem dX6_standsFor_0 : decode cX6_standsFor 0 = .ok (.aload_n 0, 1) := by decide +kernel
theorem dX6_standsFor_1 : decode cX6_standsFor 1 = .ok (.iload_n 1, 1) := by decide +kernel
theorem dX6_standsFor_2 : decode cX6_standsFor 2 = .ok (.invokevirtual 177, 3) := by decide +kernel
theorem dX6_standsFor_5 : decode cX6_standsFor 5 = .ok (.iload_n 2, 1) := by decide +kernel
theorem dX6_standsFor_6 : decode cX6_standsFor 6 = .ok (.invokestatic 202, 3) := by decide +kernel
theorem dX6_standsFor_9 : decode cX6_standsFor 9 = .ok (.ifCond .ne 13, 3) := by decide +kernel
theorem dX6_standsFor_12 : decode cX6_standsFor 12 = .ok (.new 140, 3) := by decide +kernel
theorem dX6_standsFor_15 : decode cX6_standsFor 15 = .ok (.dup, 1) := by decide +kernel
theorem dX6_standsFor_16 : decode cX6_standsFor 16 = .ok (.ldc 205, 2) := by decide +kernel
theorem dX6_standsFor_18 : decode cX6_standsFor 18 = .ok (.invokespecial 144, 3) := by decide +kernel
theorem dX6_standsFor_21 : decode cX6_standsFor 21 = .ok (.athrow, 1) := by decide +kernel
theorem dX6_standsFor_22 : decode cX6_standsFor 22 = .ok (.aload_n 0, 1) := by decide +kernel
theorem dX6_standsFor_23 : decode cX6_standsFor 23 = .ok (.iload_n 1, 1) := by decide +kernel
theorem dX6_standsFor_24 : decode cX6_standsFor 24 = .ok (.iload_n 2, 1) := by decide +kernel
theorem dX6_standsFor_25 : decode cX6_standsFor 25 = .ok (.invokevirtual 207, 3) := by decide +kernel
theorem dX6_standsFor_28 : decode cX6_standsFor 28 = .ok (.ireturn, 1) := by decide +kernel
theorem dX6_hasSignAndLoci_0 : decode cX6_hasSignAndLoci 0 = .ok (.iload_n 1, 1) := by decide +kernel
theorem dX6_hasSignAndLoci_1 : decode cX6_hasSignAndLoci 1 = .ok (.tableswitch 75 0 4 #[35, 41, 41, 41, 46], 35) := by decide +kernel
theorem dX6_hasSignAndLoci_36 : decode cX6_hasSignAndLoci 36 = .ok (.aload_n 0, 1) := by decide +kernel
theorem dX6_hasSignAndLoci_37 : decode cX6_hasSignAndLoci 37 = .ok (.iload_n 2, 1) := by decide +kernel
theorem dX6_hasSignAndLoci_38 : decode cX6_hasSignAndLoci 38 = .ok (.invokevirtual 136, 3) := by decide +kernel
theorem dX6_hasSignAndLoci_41 : decode cX6_hasSignAndLoci 41 = .ok (.ireturn, 1) := by decide +kernel
theorem dX6_hasSignAndLoci_42 : decode cX6_hasSignAndLoci 42 = .ok (.iload_n 2, 1) := by decide +kernel
theorem dX6_hasSignAndLoci_43 : decode cX6_hasSignAndLoci 43 = .ok (.invokestatic 202, 3) := by decide +kernel
theorem dX6_hasSignAndLoci_46 : decode cX6_hasSignAndLoci 46 = .ok (.ireturn, 1) := by decide +kernel
theorem dX6_hasSignAndLoci_47 : decode cX6_hasSignAndLoci 47 = .ok (.aload_n 0, 1) := by decide +kernel
theorem dX6_hasSignAndLoci_48 : decode cX6_hasSignAndLoci 48 = .ok (.iload_n 2, 1) := by decide +kernel
theorem dX6_hasSignAndLoci_49 : decode cX6_hasSignAndLoci 49 = .ok (.invokevirtual 136, 3) := by decide +kernel
theorem dX6_hasSignAndLoci_52 : decode cX6_hasSignAndLoci 52 = .ok (.ifCond .eq 22, 3) := by decide +kernel
theorem dX6_hasSignAndLoci_55 : decode cX6_hasSignAndLoci 55 = .ok (.iload_n 3, 1) := by decide +kernel
theorem dX6_hasSignAndLoci_56 : decode cX6_hasSignAndLoci 56 = .ok (.invokestatic 202, 3) := by decide +kernel
theorem dX6_hasSignAndLoci_59 : decode cX6_hasSignAndLoci 59 = .ok (.ifCond .eq 15, 3) := by decide +kernel
theorem dX6_hasSignAndLoci_62 : decode cX6_hasSignAndLoci 62 = .ok (.iload 4, 2) := by decide +kernel
theorem dX6_hasSignAndLoci_64 : decode cX6_hasSignAndLoci 64 = .ok (.invokestatic 202, 3) := by decide +kernel
theorem dX6_hasSignAndLoci_67 : decode cX6_hasSignAndLoci 67 = .ok (.ifCond .eq 7, 3) := by decide +kernel
theorem dX6_hasSignAndLoci_70 : decode cX6_hasSignAndLoci 70 = .ok (.iconst 1, 1) := by decide +kernel
theorem dX6_hasSignAndLoci_71 : decode cX6_hasSignAndLoci 71 = .ok (.goto 4, 3) := by decide +kernel
theorem dX6_hasSignAndLoci_74 : decode cX6_hasSignAndLoci 74 = .ok (.iconst 0, 1) := by decide +kernel
theorem dX6_hasSignAndLoci_75 : decode cX6_hasSignAndLoci 75 = .ok (.ireturn, 1) := by decide +kernel
theorem dX6_hasSignAndLoci_76 : decode cX6_hasSignAndLoci 76 = .ok (.iconst 1, 1) := by decide +kernel
theorem dX6_hasSignAndLoci_77 : decode cX6_hasSignAndLoci 77 = .ok (.ireturn, 1) := by decide +kernel
theorem dX6_isPossibleItem_0 : decode cX6_isPossibleItem 0 = .ok (.iload_n 0, 1) := by decide +kernel
theorem dX6_isPossibleItem_1 : decode cX6_isPossibleItem 1 = .ok (.tableswitch 66 0 5 #[39, 41, 39, 39, 48, 59], 39) := by decide +kernel
theorem dX6_isPossibleItem_40 : decode cX6_isPossibleItem 40 = .ok (.iconst 1, 1) := by decide +kernel
theorem dX6_isPossibleItem_41 : decode cX6_isPossibleItem 41 = .ok (.ireturn, 1) := by decide +kernel
theorem dX6_isPossibleItem_42 : decode cX6_isPossibleItem 42 = .ok (.iload_n 2, 1) := by decide +kernel
theorem dX6_isPossibleItem_43 : decode cX6_isPossibleItem 43 = .ok (.bipush 10, 2) := by decide +kernel
theorem dX6_isPossibleItem_45 : decode cX6_isPossibleItem 45 = .ok (.invokestatic 38, 3) := by decide +kernel
theorem dX6_isPossibleItem_48 : decode cX6_isPossibleItem 48 = .ok (.ireturn, 1) := by decide +kernel
theorem dX6_isPossibleItem_49 : decode cX6_isPossibleItem 49 = .ok (.iload_n 2, 1) := by decide +kernel
theorem dX6_isPossibleItem_50 : decode cX6_isPossibleItem 50 = .ok (.iload_n 3, 1) := by decide +kernel
theorem dX6_isPossibleItem_51 : decode cX6_isPossibleItem 51 = .ok (.if_icmp .eq 7, 3) := by decide +kernel
theorem dX6_isPossibleItem_54 : decode cX6_isPossibleItem 54 = .ok (.iconst 1, 1) := by decide +kernel
theorem dX6_isPossibleItem_55 : decode cX6_isPossibleItem 55 = .ok (.goto 4, 3) := by decide +kernel
theorem dX6_isPossibleItem_58 : decode cX6_isPossibleItem 58 = .ok (.iconst 0, 1) := by decide +kernel
theorem dX6_isPossibleItem_59 : decode cX6_isPossibleItem 59 = .ok (.ireturn, 1) := by decide +kernel
theorem dX6_isPossibleItem_60 : decode cX6_isPossibleItem 60 = .ok (.iload_n 1, 1) := by decide +kernel
theorem dX6_isPossibleItem_61 : decode cX6_isPossibleItem 61 = .ok (.bipush 26, 2) := by decide +kernel
theorem dX6_isPossibleItem_63 : decode cX6_isPossibleItem 63 = .ok (.invokestatic 38, 3) := by decide +kernel
theorem dX6_isPossibleItem_66 : decode cX6_isPossibleItem 66 = .ok (.ireturn, 1) := by decide +kernel
theorem dX6_isPossibleItem_67 : decode cX6_isPossibleItem 67 = .ok (.iconst 0, 1) := by decide +kernel
theorem dX6_isPossibleItem_68 : decode cX6_isPossibleItem 68 = .ok (.ireturn, 1) := by decide +kernel
theorem dX6_lociStandAsTheyShould_0 : decode cX6_lociStandAsTheyShould 0 = .ok (.iload_n 1, 1) := by decide +kernel
theorem dX6_lociStandAsTheyShould_1 : decode cX6_lociStandAsTheyShould 1 = .ok (.tableswitch 94 1 4 #[31, 54, 54, 69], 31) := by decide +kernel
theorem dX6_lociStandAsTheyShould_32 : decode cX6_lociStandAsTheyShould 32 = .ok (.aload_n 0, 1) := by decide +kernel
theorem dX6_lociStandAsTheyShould_33 : decode cX6_lociStandAsTheyShould 33 = .ok (.iload_n 2, 1) := by decide +kernel
theorem dX6_lociStandAsTheyShould_34 : decode cX6_lociStandAsTheyShould 34 = .ok (.invokevirtual 210, 3) := by decide +kernel
theorem dX6_lociStandAsTheyShould_37 : decode cX6_lociStandAsTheyShould 37 = .ok (.iconst (-1), 1) := by decide +kernel
theorem dX6_lociStandAsTheyShould_38 : decode cX6_lociStandAsTheyShould 38 = .ok (.if_icmp .ne 15, 3) := by decide +kernel
theorem dX6_lociStandAsTheyShould_41 : decode cX6_lociStandAsTheyShould 41 = .ok (.aload_n 0, 1) := by decide +kernel
theorem dX6_lociStandAsTheyShould_42 : decode cX6_lociStandAsTheyShould 42 = .ok (.iload_n 3, 1) := by decide +kernel
theorem dX6_lociStandAsTheyShould_43 : decode cX6_lociStandAsTheyShould 43 = .ok (.invokevirtual 213, 3) := by decide +kernel
theorem dX6_lociStandAsTheyShould_46 : decode cX6_lociStandAsTheyShould 46 = .ok (.ifCond .ne 7, 3) := by decide +kernel
theorem dX6_lociStandAsTheyShould_49 : decode cX6_lociStandAsTheyShould 49 = .ok (.iconst 1, 1) := by decide +kernel
theorem dX6_lociStandAsTheyShould_50 : decode cX6_lociStandAsTheyShould 50 = .ok (.goto 4, 3) := by decide +kernel
theorem dX6_lociStandAsTheyShould_53 : decode cX6_lociStandAsTheyShould 53 = .ok (.iconst 0, 1) := by decide +kernel
theorem dX6_lociStandAsTheyShould_54 : decode cX6_lociStandAsTheyShould 54 = .ok (.ireturn, 1) := by decide +kernel
theorem dX6_lociStandAsTheyShould_55 : decode cX6_lociStandAsTheyShould 55 = .ok (.aload_n 0, 1) := by decide +kernel
theorem dX6_lociStandAsTheyShould_56 : decode cX6_lociStandAsTheyShould 56 = .ok (.iload_n 2, 1) := by decide +kernel
theorem dX6_lociStandAsTheyShould_57 : decode cX6_lociStandAsTheyShould 57 = .ok (.invokevirtual 210, 3) := by decide +kernel
theorem dX6_lociStandAsTheyShould_60 : decode cX6_lociStandAsTheyShould 60 = .ok (.iconst (-1), 1) := by decide +kernel
theorem dX6_lociStandAsTheyShould_61 : decode cX6_lociStandAsTheyShould 61 = .ok (.if_icmp .eq 7, 3) := by decide +kernel
theorem dX6_lociStandAsTheyShould_64 : decode cX6_lociStandAsTheyShould 64 = .ok (.iconst 1, 1) := by decide +kernel
theorem dX6_lociStandAsTheyShould_65 : decode cX6_lociStandAsTheyShould 65 = .ok (.goto 4, 3) := by decide +kernel
theorem dX6_lociStandAsTheyShould_68 : decode cX6_lociStandAsTheyShould 68 = .ok (.iconst 0, 1) := by decide +kernel
theorem dX6_lociStandAsTheyShould_69 : decode cX6_lociStandAsTheyShould 69 = .ok (.ireturn, 1) := by decide +kernel
theorem dX6_lociStandAsTheyShould_70 : decode cX6_lociStandAsTheyShould 70 = .ok (.aload_n 0, 1) := by decide +kernel
theorem dX6_lociStandAsTheyShould_71 : decode cX6_lociStandAsTheyShould 71 = .ok (.iload_n 3, 1) := by decide +kernel
theorem dX6_lociStandAsTheyShould_72 : decode cX6_lociStandAsTheyShould 72 = .ok (.invokevirtual 210, 3) := by decide +kernel
theorem dX6_lociStandAsTheyShould_75 : decode cX6_lociStandAsTheyShould 75 = .ok (.iconst (-1), 1) := by decide +kernel
theorem dX6_lociStandAsTheyShould_76 : decode cX6_lociStandAsTheyShould 76 = .ok (.if_icmp .eq 17, 3) := by decide +kernel
theorem dX6_lociStandAsTheyShould_79 : decode cX6_lociStandAsTheyShould 79 = .ok (.aload_n 0, 1) := by decide +kernel
theorem dX6_lociStandAsTheyShould_80 : decode cX6_lociStandAsTheyShould 80 = .ok (.iload 4, 2) := by decide +kernel
theorem dX6_lociStandAsTheyShould_82 : decode cX6_lociStandAsTheyShould 82 = .ok (.invokevirtual 210, 3) := by decide +kernel
theorem dX6_lociStandAsTheyShould_85 : decode cX6_lociStandAsTheyShould 85 = .ok (.iconst (-1), 1) := by decide +kernel
theorem dX6_lociStandAsTheyShould_86 : decode cX6_lociStandAsTheyShould 86 = .ok (.if_icmp .eq 7, 3) := by decide +kernel
theorem dX6_lociStandAsTheyShould_89 : decode cX6_lociStandAsTheyShould 89 = .ok (.iconst 1, 1) := by decide +kernel
theorem dX6_lociStandAsTheyShould_90 : decode cX6_lociStandAsTheyShould 90 = .ok (.goto 4, 3) := by decide +kernel
theorem dX6_lociStandAsTheyShould_93 : decode cX6_lociStandAsTheyShould 93 = .ok (.iconst 0, 1) := by decide +kernel
theorem dX6_lociStandAsTheyShould_94 : decode cX6_lociStandAsTheyShould 94 = .ok (.ireturn, 1) := by decide +kernel
theorem dX6_lociStandAsTheyShould_95 : decode cX6_lociStandAsTheyShould 95 = .ok (.iconst 1, 1) := by decide +kernel
theorem dX6_lociStandAsTheyShould_96 : decode cX6_lociStandAsTheyShould 96 = .ok (.ireturn, 1) := by decide +kernel
theorem dX6_isReferentPlaced_0 : decode cX6_isReferentPlaced 0 = .ok (.iconst 0, 1) := by decide +kernel
theorem dX6_isReferentPlaced_1 : decode cX6_isReferentPlaced 1 = .ok (.istore_n 2, 1) := by decide +kernel
theorem dX6_isReferentPlaced_2 : decode cX6_isReferentPlaced 2 = .ok (.iload_n 2, 1) := by decide +kernel
theorem dX6_isReferentPlaced_3 : decode cX6_isReferentPlaced 3 = .ok (.getstatic 216, 3) := by decide +kernel
theorem dX6_isReferentPlaced_6 : decode cX6_isReferentPlaced 6 = .ok (.arraylength, 1) := by decide +kernel
theorem dX6_isReferentPlaced_7 : decode cX6_isReferentPlaced 7 = .ok (.if_icmp .ge 20, 3) := by decide +kernel
theorem dX6_isReferentPlaced_10 : decode cX6_isReferentPlaced 10 = .ok (.aload_n 0, 1) := by decide +kernel
theorem dX6_isReferentPlaced_11 : decode cX6_isReferentPlaced 11 = .ok (.iload_n 2, 1) := by decide +kernel
theorem dX6_isReferentPlaced_12 : decode cX6_isReferentPlaced 12 = .ok (.invokevirtual 210, 3) := by decide +kernel
theorem dX6_isReferentPlaced_15 : decode cX6_isReferentPlaced 15 = .ok (.iload_n 1, 1) := by decide +kernel
theorem dX6_isReferentPlaced_16 : decode cX6_isReferentPlaced 16 = .ok (.if_icmp .ne 5, 3) := by decide +kernel
theorem dX6_isReferentPlaced_19 : decode cX6_isReferentPlaced 19 = .ok (.iconst 1, 1) := by decide +kernel
theorem dX6_isReferentPlaced_20 : decode cX6_isReferentPlaced 20 = .ok (.ireturn, 1) := by decide +kernel
theorem dX6_isReferentPlaced_21 : decode cX6_isReferentPlaced 21 = .ok (.iinc 2 1, 3) := by decide +kernel
theorem dX6_isReferentPlaced_24 : decode cX6_isReferentPlaced 24 = .ok (.goto (-22), 3) := by decide +kernel
theorem dX6_isReferentPlaced_27 : decode cX6_isReferentPlaced 27 = .ok (.iconst 0, 1) := by decide +kernel
theorem dX6_isReferentPlaced_28 : decode cX6_isReferentPlaced 28 = .ok (.ireturn, 1) := by decide +kernel
theorem dX6_referentNow_0 : decode cX6_referentNow 0 = .ok (.aload_n 0, 1) := by decide +kernel
theorem dX6_referentNow_1 : decode cX6_referentNow 1 = .ok (.aload_n 0, 1) := by decide +kernel
theorem dX6_referentNow_2 : decode cX6_referentNow 2 = .ok (.getfield 16, 3) := by decide +kernel
theorem dX6_referentNow_5 : decode cX6_referentNow 5 = .ok (.invokevirtual 54, 3) := by decide +kernel
theorem dX6_referentNow_8 : decode cX6_referentNow 8 = .ok (.iconst 1, 1) := by decide +kernel
theorem dX6_referentNow_9 : decode cX6_referentNow 9 = .ok (.isub, 1) := by decide +kernel
theorem dX6_referentNow_10 : decode cX6_referentNow 10 = .ok (.iload_n 1, 1) := by decide +kernel
theorem dX6_referentNow_11 : decode cX6_referentNow 11 = .ok (.invokevirtual 207, 3) := by decide +kernel
theorem dX6_referentNow_14 : decode cX6_referentNow 14 = .ok (.ireturn, 1) := by decide +kernel
theorem dX6_referentBehind_0 : decode cX6_referentBehind 0 = .ok (.iconst (-1), 1) := by decide +kernel
theorem dX6_referentBehind_1 : decode cX6_referentBehind 1 = .ok (.istore_n 3, 1) := by decide +kernel
theorem dX6_referentBehind_2 : decode cX6_referentBehind 2 = .ok (.iconst 0, 1) := by decide +kernel
theorem dX6_referentBehind_3 : decode cX6_referentBehind 3 = .ok (.istore 4, 2) := by decide +kernel
theorem dX6_referentBehind_5 : decode cX6_referentBehind 5 = .ok (.iload 4, 2) := by decide +kernel
theorem dX6_referentBehind_7 : decode cX6_referentBehind 7 = .ok (.iload_n 1, 1) := by decide +kernel
theorem dX6_referentBehind_8 : decode cX6_referentBehind 8 = .ok (.if_icmp .gt 82, 3) := by decide +kernel
theorem dX6_referentBehind_11 : decode cX6_referentBehind 11 = .ok (.iload 4, 2) := by decide +kernel
theorem dX6_referentBehind_13 : decode cX6_referentBehind 13 = .ok (.aload_n 0, 1) := by decide +kernel
theorem dX6_referentBehind_14 : decode cX6_referentBehind 14 = .ok (.getfield 16, 3) := by decide +kernel
theorem dX6_referentBehind_17 : decode cX6_referentBehind 17 = .ok (.invokevirtual 54, 3) := by decide +kernel
theorem dX6_referentBehind_20 : decode cX6_referentBehind 20 = .ok (.if_icmp .ge 70, 3) := by decide +kernel
theorem dX6_referentBehind_23 : decode cX6_referentBehind 23 = .ok (.aload_n 0, 1) := by decide +kernel
theorem dX6_referentBehind_24 : decode cX6_referentBehind 24 = .ok (.getfield 16, 3) := by decide +kernel
theorem dX6_referentBehind_27 : decode cX6_referentBehind 27 = .ok (.iload 4, 2) := by decide +kernel
theorem dX6_referentBehind_29 : decode cX6_referentBehind 29 = .ok (.invokevirtual 84, 3) := by decide +kernel
theorem dX6_referentBehind_32 : decode cX6_referentBehind 32 = .ok (.checkcast 165, 3) := by decide +kernel
theorem dX6_referentBehind_35 : decode cX6_referentBehind 35 = .ok (.astore 5, 2) := by decide +kernel
theorem dX6_referentBehind_37 : decode cX6_referentBehind 37 = .ok (.aload 5, 2) := by decide +kernel
theorem dX6_referentBehind_39 : decode cX6_referentBehind 39 = .ok (.getfield 219, 3) := by decide +kernel
theorem dX6_referentBehind_42 : decode cX6_referentBehind 42 = .ok (.iconst 1, 1) := by decide +kernel
theorem dX6_referentBehind_43 : decode cX6_referentBehind 43 = .ok (.if_icmp .ne 21, 3) := by decide +kernel
theorem dX6_referentBehind_46 : decode cX6_referentBehind 46 = .ok (.aload 5, 2) := by decide +kernel
theorem dX6_referentBehind_48 : decode cX6_referentBehind 48 = .ok (.getfield 222, 3) := by decide +kernel
theorem dX6_referentBehind_51 : decode cX6_referentBehind 51 = .ok (.iload_n 2, 1) := by decide +kernel
theorem dX6_referentBehind_52 : decode cX6_referentBehind 52 = .ok (.if_icmp .ne 12, 3) := by decide +kernel
theorem dX6_referentBehind_55 : decode cX6_referentBehind 55 = .ok (.aload 5, 2) := by decide +kernel
theorem dX6_referentBehind_57 : decode cX6_referentBehind 57 = .ok (.getfield 225, 3) := by decide +kernel
theorem dX6_referentBehind_60 : decode cX6_referentBehind 60 = .ok (.istore_n 3, 1) := by decide +kernel
theorem dX6_referentBehind_61 : decode cX6_referentBehind 61 = .ok (.goto 23, 3) := by decide +kernel
theorem dX6_referentBehind_64 : decode cX6_referentBehind 64 = .ok (.aload 5, 2) := by decide +kernel
theorem dX6_referentBehind_66 : decode cX6_referentBehind 66 = .ok (.getfield 219, 3) := by decide +kernel
theorem dX6_referentBehind_69 : decode cX6_referentBehind 69 = .ok (.iconst 3, 1) := by decide +kernel
theorem dX6_referentBehind_70 : decode cX6_referentBehind 70 = .ok (.if_icmp .ne 14, 3) := by decide +kernel
theorem dX6_referentBehind_73 : decode cX6_referentBehind 73 = .ok (.aload 5, 2) := by decide +kernel
theorem dX6_referentBehind_75 : decode cX6_referentBehind 75 = .ok (.getfield 222, 3) := by decide +kernel
theorem dX6_referentBehind_78 : decode cX6_referentBehind 78 = .ok (.iload_n 2, 1) := by decide +kernel
theorem dX6_referentBehind_79 : decode cX6_referentBehind 79 = .ok (.if_icmp .ne 5, 3) := by decide +kernel
theorem dX6_referentBehind_82 : decode cX6_referentBehind 82 = .ok (.iconst (-1), 1) := by decide +kernel
theorem dX6_referentBehind_83 : decode cX6_referentBehind 83 = .ok (.istore_n 3, 1) := by decide +kernel
theorem dX6_referentBehind_84 : decode cX6_referentBehind 84 = .ok (.iinc 4 1, 3) := by decide +kernel
theorem dX6_referentBehind_87 : decode cX6_referentBehind 87 = .ok (.goto (-82), 3) := by decide +kernel
theorem dX6_referentBehind_90 : decode cX6_referentBehind 90 = .ok (.iload_n 3, 1) := by decide +kernel
theorem dX6_referentBehind_91 : decode cX6_referentBehind 91 = .ok (.ireturn, 1) := by decide +kernel
theorem dX6_handsTold_0 : decode cX6_handsTold 0 = .ok (.iload_n 1, 1) := by decide +kernel
theorem dX6_handsTold_1 : decode cX6_handsTold 1 = .ok (.iconst 5, 1) := by decide +kernel
theorem dX6_handsTold_2 : decode cX6_handsTold 2 = .ok (.if_icmp .ne 20, 3) := by decide +kernel
theorem dX6_handsTold_5 : decode cX6_handsTold 5 = .ok (.iload_n 2, 1) := by decide +kernel
theorem dX6_handsTold_6 : decode cX6_handsTold 6 = .ok (.bipush 8, 2) := by decide +kernel
theorem dX6_handsTold_8 : decode cX6_handsTold 8 = .ok (.idiv, 1) := by decide +kernel
theorem dX6_handsTold_9 : decode cX6_handsTold 9 = .ok (.istore 5, 2) := by decide +kernel
theorem dX6_handsTold_11 : decode cX6_handsTold 11 = .ok (.iload_n 2, 1) := by decide +kernel
theorem dX6_handsTold_12 : decode cX6_handsTold 12 = .ok (.bipush 8, 2) := by decide +kernel
theorem dX6_handsTold_14 : decode cX6_handsTold 14 = .ok (.irem, 1) := by decide +kernel
theorem dX6_handsTold_15 : decode cX6_handsTold 15 = .ok (.iconst 4, 1) := by decide +kernel
theorem dX6_handsTold_16 : decode cX6_handsTold 16 = .ok (.iload 5, 2) := by decide +kernel
theorem dX6_handsTold_18 : decode cX6_handsTold 18 = .ok (.invokestatic 228, 3) := by decide +kernel
theorem dX6_handsTold_21 : decode cX6_handsTold 21 = .ok (.areturn, 1) := by decide +kernel
theorem dX6_handsTold_22 : decode cX6_handsTold 22 = .ok (.iload_n 1, 1) := by decide +kernel
theorem dX6_handsTold_23 : decode cX6_handsTold 23 = .ok (.ifCond .eq 8, 3) := by decide +kernel
theorem dX6_handsTold_26 : decode cX6_handsTold 26 = .ok (.iload_n 1, 1) := by decide +kernel
theorem dX6_handsTold_27 : decode cX6_handsTold 27 = .ok (.iconst 4, 1) := by decide +kernel
theorem dX6_handsTold_28 : decode cX6_handsTold 28 = .ok (.if_icmp .ne 11, 3) := by decide +kernel
theorem dX6_handsTold_31 : decode cX6_handsTold 31 = .ok (.aload_n 0, 1) := by decide +kernel
theorem dX6_handsTold_32 : decode cX6_handsTold 32 = .ok (.iload_n 2, 1) := by decide +kernel
theorem dX6_handsTold_33 : decode cX6_handsTold 33 = .ok (.invokevirtual 136, 3) := by decide +kernel
theorem dX6_handsTold_36 : decode cX6_handsTold 36 = .ok (.ifCond .ne 13, 3) := by decide +kernel
theorem dX6_handsTold_39 : decode cX6_handsTold 39 = .ok (.iconst 1, 1) := by decide +kernel
theorem dX6_handsTold_40 : decode cX6_handsTold 40 = .ok (.iload_n 2, 1) := by decide +kernel
theorem dX6_handsTold_41 : decode cX6_handsTold 41 = .ok (.invokestatic 232, 3) := by decide +kernel
theorem dX6_handsTold_44 : decode cX6_handsTold 44 = .ok (.iconst 0, 1) := by decide +kernel
theorem dX6_handsTold_45 : decode cX6_handsTold 45 = .ok (.invokestatic 228, 3) := by decide +kernel
theorem dX6_handsTold_48 : decode cX6_handsTold 48 = .ok (.areturn, 1) := by decide +kernel
theorem dX6_handsTold_49 : decode cX6_handsTold 49 = .ok (.aload_n 0, 1) := by decide +kernel
theorem dX6_handsTold_50 : decode cX6_handsTold 50 = .ok (.getfield 10, 3) := by decide +kernel
theorem dX6_handsTold_53 : decode cX6_handsTold 53 = .ok (.iload_n 2, 1) := by decide +kernel
theorem dX6_handsTold_54 : decode cX6_handsTold 54 = .ok (.invokevirtual 84, 3) := by decide +kernel
theorem dX6_handsTold_57 : decode cX6_handsTold 57 = .ok (.checkcast 63, 3) := by decide +kernel
theorem dX6_handsTold_60 : decode cX6_handsTold 60 = .ok (.astore 5, 2) := by decide +kernel
theorem dX6_handsTold_62 : decode cX6_handsTold 62 = .ok (.iload_n 1, 1) := by decide +kernel
theorem dX6_handsTold_63 : decode cX6_handsTold 63 = .ok (.iconst 4, 1) := by decide +kernel
theorem dX6_handsTold_64 : decode cX6_handsTold 64 = .ok (.if_icmp .ne 10, 3) := by decide +kernel
theorem dX6_handsTold_67 : decode cX6_handsTold 67 = .ok (.iload_n 3, 1) := by decide +kernel
theorem dX6_handsTold_68 : decode cX6_handsTold 68 = .ok (.invokestatic 232, 3) := by decide +kernel
theorem dX6_handsTold_71 : decode cX6_handsTold 71 = .ok (.goto 8, 3) := by decide +kernel
theorem dX6_handsTold_74 : decode cX6_handsTold 74 = .ok (.aload 5, 2) := by decide +kernel
theorem dX6_handsTold_76 : decode cX6_handsTold 76 = .ok (.getfield 106, 3) := by decide +kernel
theorem dX6_handsTold_79 : decode cX6_handsTold 79 = .ok (.istore 6, 2) := by decide +kernel
theorem dX6_handsTold_81 : decode cX6_handsTold 81 = .ok (.iload_n 1, 1) := by decide +kernel
theorem dX6_handsTold_82 : decode cX6_handsTold 82 = .ok (.iconst 4, 1) := by decide +kernel
theorem dX6_handsTold_83 : decode cX6_handsTold 83 = .ok (.if_icmp .ne 11, 3) := by decide +kernel
theorem dX6_handsTold_86 : decode cX6_handsTold 86 = .ok (.iload 4, 2) := by decide +kernel
theorem dX6_handsTold_88 : decode cX6_handsTold 88 = .ok (.invokestatic 232, 3) := by decide +kernel
theorem dX6_handsTold_91 : decode cX6_handsTold 91 = .ok (.goto 8, 3) := by decide +kernel
theorem dX6_handsTold_94 : decode cX6_handsTold 94 = .ok (.aload 5, 2) := by decide +kernel
theorem dX6_handsTold_96 : decode cX6_handsTold 96 = .ok (.getfield 109, 3) := by decide +kernel
theorem dX6_handsTold_99 : decode cX6_handsTold 99 = .ok (.istore 7, 2) := by decide +kernel
theorem dX6_handsTold_101 : decode cX6_handsTold 101 = .ok (.new 63, 3) := by decide +kernel
theorem dX6_handsTold_104 : decode cX6_handsTold 104 = .ok (.dup, 1) := by decide +kernel
theorem dX6_handsTold_105 : decode cX6_handsTold 105 = .ok (.aload 5, 2) := by decide +kernel
theorem dX6_handsTold_107 : decode cX6_handsTold 107 = .ok (.getfield 102, 3) := by decide +kernel
theorem dX6_handsTold_110 : decode cX6_handsTold 110 = .ok (.iload 6, 2) := by decide +kernel
theorem dX6_handsTold_112 : decode cX6_handsTold 112 = .ok (.iload 7, 2) := by decide +kernel
theorem dX6_handsTold_114 : decode cX6_handsTold 114 = .ok (.aload 5, 2) := by decide +kernel
theorem dX6_handsTold_116 : decode cX6_handsTold 116 = .ok (.getfield 112, 3) := by decide +kernel
theorem dX6_handsTold_119 : decode cX6_handsTold 119 = .ok (.aload 5, 2) := by decide +kernel
theorem dX6_handsTold_121 : decode cX6_handsTold 121 = .ok (.getfield 115, 3) := by decide +kernel
theorem dX6_handsTold_124 : decode cX6_handsTold 124 = .ok (.aload 5, 2) := by decide +kernel
theorem dX6_handsTold_126 : decode cX6_handsTold 126 = .ok (.getfield 118, 3) := by decide +kernel
theorem dX6_handsTold_129 : decode cX6_handsTold 129 = .ok (.aload 5, 2) := by decide +kernel
theorem dX6_handsTold_131 : decode cX6_handsTold 131 = .ok (.getfield 235, 3) := by decide +kernel
theorem dX6_handsTold_134 : decode cX6_handsTold 134 = .ok (.invokespecial 65, 3) := by decide +kernel
theorem dX6_handsTold_137 : decode cX6_handsTold 137 = .ok (.areturn, 1) := by decide +kernel
theorem dX6_stillHands_0 : decode cX6_stillHands 0 = .ok (.new 63, 3) := by decide +kernel
theorem dX6_stillHands_3 : decode cX6_stillHands 3 = .ok (.dup, 1) := by decide +kernel
theorem dX6_stillHands_4 : decode cX6_stillHands 4 = .ok (.iload_n 0, 1) := by decide +kernel
theorem dX6_stillHands_5 : decode cX6_stillHands 5 = .ok (.iload_n 1, 1) := by decide +kernel
theorem dX6_stillHands_6 : decode cX6_stillHands 6 = .ok (.iload_n 1, 1) := by decide +kernel
theorem dX6_stillHands_7 : decode cX6_stillHands 7 = .ok (.iload_n 2, 1) := by decide +kernel
theorem dX6_stillHands_8 : decode cX6_stillHands 8 = .ok (.iload_n 2, 1) := by decide +kernel
theorem dX6_stillHands_9 : decode cX6_stillHands 9 = .ok (.iconst 0, 1) := by decide +kernel
theorem dX6_stillHands_10 : decode cX6_stillHands 10 = .ok (.iconst (-1), 1) := by decide +kernel
theorem dX6_stillHands_11 : decode cX6_stillHands 11 = .ok (.invokespecial 65, 3) := by decide +kernel
theorem dX6_stillHands_14 : decode cX6_stillHands 14 = .ok (.areturn, 1) := by decide +kernel
theorem dX6_isArticulatorBusy_0 : decode cX6_isArticulatorBusy 0 = .ok (.iconst 0, 1) := by decide +kernel
theorem dX6_isArticulatorBusy_1 : decode cX6_isArticulatorBusy 1 = .ok (.istore 4, 2) := by decide +kernel
theorem dX6_isArticulatorBusy_3 : decode cX6_isArticulatorBusy 3 = .ok (.iload 4, 2) := by decide +kernel
theorem dX6_isArticulatorBusy_5 : decode cX6_isArticulatorBusy 5 = .ok (.aload_n 0, 1) := by decide +kernel
theorem dX6_isArticulatorBusy_6 : decode cX6_isArticulatorBusy 6 = .ok (.getfield 19, 3) := by decide +kernel
theorem dX6_isArticulatorBusy_9 : decode cX6_isArticulatorBusy 9 = .ok (.invokevirtual 54, 3) := by decide +kernel
theorem dX6_isArticulatorBusy_12 : decode cX6_isArticulatorBusy 12 = .ok (.if_icmp .ge 55, 3) := by decide +kernel
theorem dX6_isArticulatorBusy_15 : decode cX6_isArticulatorBusy 15 = .ok (.aload_n 0, 1) := by decide +kernel
theorem dX6_isArticulatorBusy_16 : decode cX6_isArticulatorBusy 16 = .ok (.getfield 19, 3) := by decide +kernel
theorem dX6_isArticulatorBusy_19 : decode cX6_isArticulatorBusy 19 = .ok (.iload 4, 2) := by decide +kernel
theorem dX6_isArticulatorBusy_21 : decode cX6_isArticulatorBusy 21 = .ok (.invokevirtual 84, 3) := by decide +kernel
theorem dX6_isArticulatorBusy_24 : decode cX6_isArticulatorBusy 24 = .ok (.checkcast 192, 3) := by decide +kernel
theorem dX6_isArticulatorBusy_27 : decode cX6_isArticulatorBusy 27 = .ok (.astore 5, 2) := by decide +kernel
theorem dX6_isArticulatorBusy_29 : decode cX6_isArticulatorBusy 29 = .ok (.aload 5, 2) := by decide +kernel
theorem dX6_isArticulatorBusy_31 : decode cX6_isArticulatorBusy 31 = .ok (.getfield 238, 3) := by decide +kernel
theorem dX6_isArticulatorBusy_34 : decode cX6_isArticulatorBusy 34 = .ok (.invokestatic 184, 3) := by decide +kernel
theorem dX6_isArticulatorBusy_37 : decode cX6_isArticulatorBusy 37 = .ok (.iload_n 1, 1) := by decide +kernel
theorem dX6_isArticulatorBusy_38 : decode cX6_isArticulatorBusy 38 = .ok (.if_icmp .ne 23, 3) := by decide +kernel
theorem dX6_isArticulatorBusy_41 : decode cX6_isArticulatorBusy 41 = .ok (.aload 5, 2) := by decide +kernel
theorem dX6_isArticulatorBusy_43 : decode cX6_isArticulatorBusy 43 = .ok (.getfield 241, 3) := by decide +kernel
theorem dX6_isArticulatorBusy_46 : decode cX6_isArticulatorBusy 46 = .ok (.iload_n 3, 1) := by decide +kernel
theorem dX6_isArticulatorBusy_47 : decode cX6_isArticulatorBusy 47 = .ok (.if_icmp .gt 14, 3) := by decide +kernel
theorem dX6_isArticulatorBusy_50 : decode cX6_isArticulatorBusy 50 = .ok (.iload_n 2, 1) := by decide +kernel
theorem dX6_isArticulatorBusy_51 : decode cX6_isArticulatorBusy 51 = .ok (.aload 5, 2) := by decide +kernel
theorem dX6_isArticulatorBusy_53 : decode cX6_isArticulatorBusy 53 = .ok (.getfield 242, 3) := by decide +kernel
theorem dX6_isArticulatorBusy_56 : decode cX6_isArticulatorBusy 56 = .ok (.if_icmp .gt 5, 3) := by decide +kernel
theorem dX6_isArticulatorBusy_59 : decode cX6_isArticulatorBusy 59 = .ok (.iconst 1, 1) := by decide +kernel
theorem dX6_isArticulatorBusy_60 : decode cX6_isArticulatorBusy 60 = .ok (.ireturn, 1) := by decide +kernel
theorem dX6_isArticulatorBusy_61 : decode cX6_isArticulatorBusy 61 = .ok (.iinc 4 1, 3) := by decide +kernel
theorem dX6_isArticulatorBusy_64 : decode cX6_isArticulatorBusy 64 = .ok (.goto (-61), 3) := by decide +kernel
theorem dX6_isArticulatorBusy_67 : decode cX6_isArticulatorBusy 67 = .ok (.iconst 0, 1) := by decide +kernel
theorem dX6_isArticulatorBusy_68 : decode cX6_isArticulatorBusy 68 = .ok (.ireturn, 1) := by decide +kernel
theorem dX6_faceShown_0 : decode cX6_faceShown 0 = .ok (.iload_n 1, 1) := by decide +kernel
theorem dX6_faceShown_1 : decode cX6_faceShown 1 = .ok (.istore_n 3, 1) := by decide +kernel
theorem dX6_faceShown_2 : decode cX6_faceShown 2 = .ok (.iload_n 3, 1) := by decide +kernel
theorem dX6_faceShown_3 : decode cX6_faceShown 3 = .ok (.ifCond .lt 56, 3) := by decide +kernel
theorem dX6_faceShown_6 : decode cX6_faceShown 6 = .ok (.iload_n 3, 1) := by decide +kernel
theorem dX6_faceShown_7 : decode cX6_faceShown 7 = .ok (.aload_n 0, 1) := by decide +kernel
theorem dX6_faceShown_8 : decode cX6_faceShown 8 = .ok (.getfield 16, 3) := by decide +kernel
theorem dX6_faceShown_11 : decode cX6_faceShown 11 = .ok (.invokevirtual 54, 3) := by decide +kernel
theorem dX6_faceShown_14 : decode cX6_faceShown 14 = .ok (.if_icmp .ge 45, 3) := by decide +kernel
theorem dX6_faceShown_17 : decode cX6_faceShown 17 = .ok (.aload_n 0, 1) := by decide +kernel
theorem dX6_faceShown_18 : decode cX6_faceShown 18 = .ok (.iload_n 3, 1) := by decide +kernel
theorem dX6_faceShown_19 : decode cX6_faceShown 19 = .ok (.iload_n 2, 1) := by decide +kernel
theorem dX6_faceShown_20 : decode cX6_faceShown 20 = .ok (.invokevirtual 243, 3) := by decide +kernel
theorem dX6_faceShown_23 : decode cX6_faceShown 23 = .ok (.istore 4, 2) := by decide +kernel
theorem dX6_faceShown_25 : decode cX6_faceShown 25 = .ok (.iload 4, 2) := by decide +kernel
theorem dX6_faceShown_27 : decode cX6_faceShown 27 = .ok (.iconst (-1), 1) := by decide +kernel
theorem dX6_faceShown_28 : decode cX6_faceShown 28 = .ok (.if_icmp .eq 6, 3) := by decide +kernel
theorem dX6_faceShown_31 : decode cX6_faceShown 31 = .ok (.iload 4, 2) := by decide +kernel
theorem dX6_faceShown_33 : decode cX6_faceShown 33 = .ok (.ireturn, 1) := by decide +kernel
theorem dX6_faceShown_34 : decode cX6_faceShown 34 = .ok (.aload_n 0, 1) := by decide +kernel
theorem dX6_faceShown_35 : decode cX6_faceShown 35 = .ok (.getfield 16, 3) := by decide +kernel
theorem dX6_faceShown_38 : decode cX6_faceShown 38 = .ok (.iload_n 3, 1) := by decide +kernel
theorem dX6_faceShown_39 : decode cX6_faceShown 39 = .ok (.invokevirtual 84, 3) := by decide +kernel
theorem dX6_faceShown_42 : decode cX6_faceShown 42 = .ok (.checkcast 165, 3) := by decide +kernel
theorem dX6_faceShown_45 : decode cX6_faceShown 45 = .ok (.invokevirtual 246, 3) := by decide +kernel
theorem dX6_faceShown_48 : decode cX6_faceShown 48 = .ok (.ifCond .ne 5, 3) := by decide +kernel
theorem dX6_faceShown_51 : decode cX6_faceShown 51 = .ok (.iconst (-1), 1) := by decide +kernel
theorem dX6_faceShown_52 : decode cX6_faceShown 52 = .ok (.ireturn, 1) := by decide +kernel
theorem dX6_faceShown_53 : decode cX6_faceShown 53 = .ok (.iinc 3 (-1), 3) := by decide +kernel
theorem dX6_faceShown_56 : decode cX6_faceShown 56 = .ok (.goto (-54), 3) := by decide +kernel
theorem dX6_faceShown_59 : decode cX6_faceShown 59 = .ok (.iconst (-1), 1) := by decide +kernel
theorem dX6_faceShown_60 : decode cX6_faceShown 60 = .ok (.ireturn, 1) := by decide +kernel
theorem dX6_faceOver_0 : decode cX6_faceOver 0 = .ok (.iconst 0, 1) := by decide +kernel
theorem dX6_faceOver_1 : decode cX6_faceOver 1 = .ok (.istore_n 3, 1) := by decide +kernel
theorem dX6_faceOver_2 : decode cX6_faceOver 2 = .ok (.iload_n 3, 1) := by decide +kernel
theorem dX6_faceOver_3 : decode cX6_faceOver 3 = .ok (.aload_n 0, 1) := by decide +kernel
theorem dX6_faceOver_4 : decode cX6_faceOver 4 = .ok (.getfield 19, 3) := by decide +kernel
theorem dX6_faceOver_7 : decode cX6_faceOver 7 = .ok (.invokevirtual 54, 3) := by decide +kernel
theorem dX6_faceOver_10 : decode cX6_faceOver 10 = .ok (.if_icmp .ge 58, 3) := by decide +kernel
theorem dX6_faceOver_13 : decode cX6_faceOver 13 = .ok (.aload_n 0, 1) := by decide +kernel
theorem dX6_faceOver_14 : decode cX6_faceOver 14 = .ok (.getfield 19, 3) := by decide +kernel
theorem dX6_faceOver_17 : decode cX6_faceOver 17 = .ok (.iload_n 3, 1) := by decide +kernel
theorem dX6_faceOver_18 : decode cX6_faceOver 18 = .ok (.invokevirtual 84, 3) := by decide +kernel
theorem dX6_faceOver_21 : decode cX6_faceOver 21 = .ok (.checkcast 192, 3) := by decide +kernel
theorem dX6_faceOver_24 : decode cX6_faceOver 24 = .ok (.astore 4, 2) := by decide +kernel
theorem dX6_faceOver_26 : decode cX6_faceOver 26 = .ok (.aload 4, 2) := by decide +kernel
theorem dX6_faceOver_28 : decode cX6_faceOver 28 = .ok (.getfield 238, 3) := by decide +kernel
theorem dX6_faceOver_31 : decode cX6_faceOver 31 = .ok (.invokestatic 184, 3) := by decide +kernel
theorem dX6_faceOver_34 : decode cX6_faceOver 34 = .ok (.iload_n 2, 1) := by decide +kernel
theorem dX6_faceOver_35 : decode cX6_faceOver 35 = .ok (.if_icmp .ne 27, 3) := by decide +kernel
theorem dX6_faceOver_38 : decode cX6_faceOver 38 = .ok (.aload 4, 2) := by decide +kernel
theorem dX6_faceOver_40 : decode cX6_faceOver 40 = .ok (.getfield 241, 3) := by decide +kernel
theorem dX6_faceOver_43 : decode cX6_faceOver 43 = .ok (.iload_n 1, 1) := by decide +kernel
theorem dX6_faceOver_44 : decode cX6_faceOver 44 = .ok (.if_icmp .gt 18, 3) := by decide +kernel
theorem dX6_faceOver_47 : decode cX6_faceOver 47 = .ok (.iload_n 1, 1) := by decide +kernel
theorem dX6_faceOver_48 : decode cX6_faceOver 48 = .ok (.aload 4, 2) := by decide +kernel
theorem dX6_faceOver_50 : decode cX6_faceOver 50 = .ok (.getfield 242, 3) := by decide +kernel
theorem dX6_faceOver_53 : decode cX6_faceOver 53 = .ok (.if_icmp .gt 9, 3) := by decide +kernel
theorem dX6_faceOver_56 : decode cX6_faceOver 56 = .ok (.aload 4, 2) := by decide +kernel
theorem dX6_faceOver_58 : decode cX6_faceOver 58 = .ok (.getfield 238, 3) := by decide +kernel
theorem dX6_faceOver_61 : decode cX6_faceOver 61 = .ok (.ireturn, 1) := by decide +kernel
theorem dX6_faceOver_62 : decode cX6_faceOver 62 = .ok (.iinc 3 1, 3) := by decide +kernel
theorem dX6_faceOver_65 : decode cX6_faceOver 65 = .ok (.goto (-63), 3) := by decide +kernel
theorem dX6_faceOver_68 : decode cX6_faceOver 68 = .ok (.iconst (-1), 1) := by decide +kernel
theorem dX6_faceOver_69 : decode cX6_faceOver 69 = .ok (.ireturn, 1) := by decide +kernel
theorem dX6_articulatorOf_0 : decode cX6_articulatorOf 0 = .ok (.iconst 0, 1) := by decide +kernel
theorem dX6_articulatorOf_1 : decode cX6_articulatorOf 1 = .ok (.iload_n 0, 1) := by decide +kernel
theorem dX6_articulatorOf_2 : decode cX6_articulatorOf 2 = .ok (.iconst 1, 1) := by decide +kernel
theorem dX6_articulatorOf_3 : decode cX6_articulatorOf 3 = .ok (.isub, 1) := by decide +kernel
theorem dX6_articulatorOf_4 : decode cX6_articulatorOf 4 = .ok (.invokestatic 250, 3) := by decide +kernel
theorem dX6_articulatorOf_7 : decode cX6_articulatorOf 7 = .ok (.ireturn, 1) := by decide +kernel
theorem dX6_requireItem_0 : decode cX6_requireItem 0 = .ok (.iload_n 1, 1) := by decide +kernel
theorem dX6_requireItem_1 : decode cX6_requireItem 1 = .ok (.aload_n 0, 1) := by decide +kernel
theorem dX6_requireItem_2 : decode cX6_requireItem 2 = .ok (.getfield 16, 3) := by decide +kernel
theorem dX6_requireItem_5 : decode cX6_requireItem 5 = .ok (.invokevirtual 54, 3) := by decide +kernel
theorem dX6_requireItem_8 : decode cX6_requireItem 8 = .ok (.invokestatic 38, 3) := by decide +kernel
theorem dX6_requireItem_11 : decode cX6_requireItem 11 = .ok (.ifCond .ne 13, 3) := by decide +kernel
theorem dX6_requireItem_14 : decode cX6_requireItem 14 = .ok (.new 140, 3) := by decide +kernel
theorem dX6_requireItem_17 : decode cX6_requireItem 17 = .ok (.dup, 1) := by decide +kernel
theorem dX6_requireItem_18 : decode cX6_requireItem 18 = .ok (.ldc 255, 2) := by decide +kernel
theorem dX6_requireItem_20 : decode cX6_requireItem 20 = .ok (.invokespecial 144, 3) := by decide +kernel
theorem dX6_requireItem_23 : decode cX6_requireItem 23 = .ok (.athrow, 1) := by decide +kernel
theorem dX6_requireItem_24 : decode cX6_requireItem 24 = .ok (.return_, 1) := by decide +kernel
theorem dX6_isLocus_0 : decode cX6_isLocus 0 = .ok (.iload_n 0, 1) := by decide +kernel
theorem dX6_isLocus_1 : decode cX6_isLocus 1 = .ok (.getstatic 216, 3) := by decide +kernel
theorem dX6_isLocus_4 : decode cX6_isLocus 4 = .ok (.arraylength, 1) := by decide +kernel
theorem dX6_isLocus_5 : decode cX6_isLocus 5 = .ok (.invokestatic 38, 3) := by decide +kernel
theorem dX6_isLocus_8 : decode cX6_isLocus 8 = .ok (.ireturn, 1) := by decide +kernel
theorem dX6_placeOf_0 : decode cX6_placeOf 0 = .ok (.iload_n 0, 1) := by decide +kernel
theorem dX6_placeOf_1 : decode cX6_placeOf 1 = .ok (.invokestatic 202, 3) := by decide +kernel
theorem dX6_placeOf_4 : decode cX6_placeOf 4 = .ok (.ifCond .eq 11, 3) := by decide +kernel
theorem dX6_placeOf_7 : decode cX6_placeOf 7 = .ok (.getstatic 216, 3) := by decide +kernel
theorem dX6_placeOf_10 : decode cX6_placeOf 10 = .ok (.iload_n 0, 1) := by decide +kernel
theorem dX6_placeOf_11 : decode cX6_placeOf 11 = .ok (.iaload, 1) := by decide +kernel
theorem dX6_placeOf_12 : decode cX6_placeOf 12 = .ok (.goto 4, 3) := by decide +kernel
theorem dX6_placeOf_15 : decode cX6_placeOf 15 = .ok (.iconst (-1), 1) := by decide +kernel
theorem dX6_placeOf_16 : decode cX6_placeOf 16 = .ok (.ireturn, 1) := by decide +kernel
theorem dX6_locusAt_0 : decode cX6_locusAt 0 = .ok (.iconst 0, 1) := by decide +kernel
theorem dX6_locusAt_1 : decode cX6_locusAt 1 = .ok (.istore_n 1, 1) := by decide +kernel
theorem dX6_locusAt_2 : decode cX6_locusAt 2 = .ok (.iload_n 1, 1) := by decide +kernel
theorem dX6_locusAt_3 : decode cX6_locusAt 3 = .ok (.getstatic 216, 3) := by decide +kernel
theorem dX6_locusAt_6 : decode cX6_locusAt 6 = .ok (.arraylength, 1) := by decide +kernel
theorem dX6_locusAt_7 : decode cX6_locusAt 7 = .ok (.if_icmp .ge 20, 3) := by decide +kernel
theorem dX6_locusAt_10 : decode cX6_locusAt 10 = .ok (.getstatic 216, 3) := by decide +kernel
theorem dX6_locusAt_13 : decode cX6_locusAt 13 = .ok (.iload_n 1, 1) := by decide +kernel
theorem dX6_locusAt_14 : decode cX6_locusAt 14 = .ok (.iaload, 1) := by decide +kernel
theorem dX6_locusAt_15 : decode cX6_locusAt 15 = .ok (.iload_n 0, 1) := by decide +kernel
theorem dX6_locusAt_16 : decode cX6_locusAt 16 = .ok (.if_icmp .ne 5, 3) := by decide +kernel
theorem dX6_locusAt_19 : decode cX6_locusAt 19 = .ok (.iload_n 1, 1) := by decide +kernel
theorem dX6_locusAt_20 : decode cX6_locusAt 20 = .ok (.ireturn, 1) := by decide +kernel
theorem dX6_locusAt_21 : decode cX6_locusAt 21 = .ok (.iinc 1 1, 3) := by decide +kernel
theorem dX6_locusAt_24 : decode cX6_locusAt 24 = .ok (.goto (-22), 3) := by decide +kernel
theorem dX6_locusAt_27 : decode cX6_locusAt 27 = .ok (.iconst (-1), 1) := by decide +kernel
theorem dX6_locusAt_28 : decode cX6_locusAt 28 = .ok (.ireturn, 1) := by decide +kernel
theorem dX6_rule_0 : decode cX6_rule 0 = .ok (.iload_n 1, 1) := by decide +kernel
theorem dX6_rule_1 : decode cX6_rule 1 = .ok (.iconst 5, 1) := by decide +kernel
theorem dX6_rule_2 : decode cX6_rule 2 = .ok (.invokestatic 38, 3) := by decide +kernel
theorem dX6_rule_5 : decode cX6_rule 5 = .ok (.ifCond .ne 14, 3) := by decide +kernel
theorem dX6_rule_8 : decode cX6_rule 8 = .ok (.new 42, 3) := by decide +kernel
theorem dX6_rule_11 : decode cX6_rule 11 = .ok (.dup, 1) := by decide +kernel
theorem dX6_rule_12 : decode cX6_rule 12 = .ok (.ldc_w 257, 3) := by decide +kernel
theorem dX6_rule_15 : decode cX6_rule 15 = .ok (.invokespecial 46, 3) := by decide +kernel
theorem dX6_rule_18 : decode cX6_rule 18 = .ok (.athrow, 1) := by decide +kernel
theorem dX6_rule_19 : decode cX6_rule 19 = .ok (.aload_n 0, 1) := by decide +kernel
theorem dX6_rule_20 : decode cX6_rule 20 = .ok (.getfield 22, 3) := by decide +kernel
theorem dX6_rule_23 : decode cX6_rule 23 = .ok (.invokevirtual 54, 3) := by decide +kernel
theorem dX6_rule_26 : decode cX6_rule 26 = .ok (.bipush 6, 2) := by decide +kernel
theorem dX6_rule_28 : decode cX6_rule 28 = .ok (.if_icmp .lt 14, 3) := by decide +kernel
theorem dX6_rule_31 : decode cX6_rule 31 = .ok (.new 58, 3) := by decide +kernel
theorem dX6_rule_34 : decode cX6_rule 34 = .ok (.dup, 1) := by decide +kernel
theorem dX6_rule_35 : decode cX6_rule 35 = .ok (.ldc_w 259, 3) := by decide +kernel
theorem dX6_rule_38 : decode cX6_rule 38 = .ok (.invokespecial 62, 3) := by decide +kernel
theorem dX6_rule_41 : decode cX6_rule 41 = .ok (.athrow, 1) := by decide +kernel
theorem dX6_rule_42 : decode cX6_rule 42 = .ok (.aload_n 0, 1) := by decide +kernel
theorem dX6_rule_43 : decode cX6_rule 43 = .ok (.getfield 22, 3) := by decide +kernel
theorem dX6_rule_46 : decode cX6_rule 46 = .ok (.new 261, 3) := by decide +kernel
theorem dX6_rule_49 : decode cX6_rule 49 = .ok (.dup, 1) := by decide +kernel
theorem dX6_rule_50 : decode cX6_rule 50 = .ok (.iload_n 1, 1) := by decide +kernel
theorem dX6_rule_51 : decode cX6_rule 51 = .ok (.invokespecial 263, 3) := by decide +kernel
theorem dX6_rule_54 : decode cX6_rule 54 = .ok (.invokevirtual 74, 3) := by decide +kernel
theorem dX6_rule_57 : decode cX6_rule 57 = .ok (.pop, 1) := by decide +kernel
theorem dX6_rule_58 : decode cX6_rule 58 = .ok (.aload_n 0, 1) := by decide +kernel
theorem dX6_rule_59 : decode cX6_rule 59 = .ok (.getfield 22, 3) := by decide +kernel
theorem dX6_rule_62 : decode cX6_rule 62 = .ok (.invokevirtual 54, 3) := by decide +kernel
theorem dX6_rule_65 : decode cX6_rule 65 = .ok (.iconst 1, 1) := by decide +kernel
theorem dX6_rule_66 : decode cX6_rule 66 = .ok (.isub, 1) := by decide +kernel
theorem dX6_rule_67 : decode cX6_rule 67 = .ok (.ireturn, 1) := by decide +kernel
theorem dX6_except_0 : decode cX6_except 0 = .ok (.iload_n 1, 1) := by decide +kernel
theorem dX6_except_1 : decode cX6_except 1 = .ok (.aload_n 0, 1) := by decide +kernel
theorem dX6_except_2 : decode cX6_except 2 = .ok (.getfield 22, 3) := by decide +kernel
theorem dX6_except_5 : decode cX6_except 5 = .ok (.invokevirtual 54, 3) := by decide +kernel
theorem dX6_except_8 : decode cX6_except 8 = .ok (.invokestatic 38, 3) := by decide +kernel
theorem dX6_except_11 : decode cX6_except 11 = .ok (.ifCond .ne 14, 3) := by decide +kernel
theorem dX6_except_14 : decode cX6_except 14 = .ok (.new 140, 3) := by decide +kernel
theorem dX6_except_17 : decode cX6_except 17 = .ok (.dup, 1) := by decide +kernel
theorem dX6_except_18 : decode cX6_except 18 = .ok (.ldc_w 265, 3) := by decide +kernel
theorem dX6_except_21 : decode cX6_except 21 = .ok (.invokespecial 144, 3) := by decide +kernel
theorem dX6_except_24 : decode cX6_except 24 = .ok (.athrow, 1) := by decide +kernel
theorem dX6_except_25 : decode cX6_except 25 = .ok (.aload_n 0, 1) := by decide +kernel
theorem dX6_except_26 : decode cX6_except 26 = .ok (.iload_n 2, 1) := by decide +kernel
theorem dX6_except_27 : decode cX6_except 27 = .ok (.invokevirtual 78, 3) := by decide +kernel
theorem dX6_except_30 : decode cX6_except 30 = .ok (.aload_n 0, 1) := by decide +kernel
theorem dX6_except_31 : decode cX6_except 31 = .ok (.getfield 22, 3) := by decide +kernel
theorem dX6_except_34 : decode cX6_except 34 = .ok (.iload_n 1, 1) := by decide +kernel
theorem dX6_except_35 : decode cX6_except 35 = .ok (.invokevirtual 84, 3) := by decide +kernel
theorem dX6_except_38 : decode cX6_except 38 = .ok (.checkcast 261, 3) := by decide +kernel
theorem dX6_except_41 : decode cX6_except 41 = .ok (.iload_n 2, 1) := by decide +kernel
theorem dX6_except_42 : decode cX6_except 42 = .ok (.invokevirtual 267, 3) := by decide +kernel
theorem dX6_except_45 : decode cX6_except 45 = .ok (.ireturn, 1) := by decide +kernel
theorem dX6_applyRules_0 : decode cX6_applyRules 0 = .ok (.iconst 0, 1) := by decide +kernel
theorem dX6_applyRules_1 : decode cX6_applyRules 1 = .ok (.istore_n 1, 1) := by decide +kernel
theorem dX6_applyRules_2 : decode cX6_applyRules 2 = .ok (.iload_n 1, 1) := by decide +kernel
theorem dX6_applyRules_3 : decode cX6_applyRules 3 = .ok (.aload_n 0, 1) := by decide +kernel
theorem dX6_applyRules_4 : decode cX6_applyRules 4 = .ok (.getfield 16, 3) := by decide +kernel
theorem dX6_applyRules_7 : decode cX6_applyRules 7 = .ok (.invokevirtual 54, 3) := by decide +kernel
theorem dX6_applyRules_10 : decode cX6_applyRules 10 = .ok (.if_icmp .ge 32, 3) := by decide +kernel
theorem dX6_applyRules_13 : decode cX6_applyRules 13 = .ok (.aload_n 0, 1) := by decide +kernel
theorem dX6_applyRules_14 : decode cX6_applyRules 14 = .ok (.getfield 16, 3) := by decide +kernel
theorem dX6_applyRules_17 : decode cX6_applyRules 17 = .ok (.iload_n 1, 1) := by decide +kernel
theorem dX6_applyRules_18 : decode cX6_applyRules 18 = .ok (.invokevirtual 84, 3) := by decide +kernel
theorem dX6_applyRules_21 : decode cX6_applyRules 21 = .ok (.checkcast 165, 3) := by decide +kernel
theorem dX6_applyRules_24 : decode cX6_applyRules 24 = .ok (.astore_n 2, 1) := by decide +kernel
theorem dX6_applyRules_25 : decode cX6_applyRules 25 = .ok (.aload_n 2, 1) := by decide +kernel
theorem dX6_applyRules_26 : decode cX6_applyRules 26 = .ok (.getfield 270, 3) := by decide +kernel
theorem dX6_applyRules_29 : decode cX6_applyRules 29 = .ok (.aload_n 2, 1) := by decide +kernel
theorem dX6_applyRules_30 : decode cX6_applyRules 30 = .ok (.getfield 274, 3) := by decide +kernel
theorem dX6_applyRules_33 : decode cX6_applyRules 33 = .ok (.invokevirtual 277, 3) := by decide +kernel
theorem dX6_applyRules_36 : decode cX6_applyRules 36 = .ok (.iinc 1 1, 3) := by decide +kernel
theorem dX6_applyRules_39 : decode cX6_applyRules 39 = .ok (.goto (-37), 3) := by decide +kernel
theorem dX6_applyRules_42 : decode cX6_applyRules 42 = .ok (.iconst 0, 1) := by decide +kernel
theorem dX6_applyRules_43 : decode cX6_applyRules 43 = .ok (.istore_n 1, 1) := by decide +kernel
theorem dX6_applyRules_44 : decode cX6_applyRules 44 = .ok (.iload_n 1, 1) := by decide +kernel
theorem dX6_applyRules_45 : decode cX6_applyRules 45 = .ok (.aload_n 0, 1) := by decide +kernel
theorem dX6_applyRules_46 : decode cX6_applyRules 46 = .ok (.getfield 22, 3) := by decide +kernel
theorem dX6_applyRules_49 : decode cX6_applyRules 49 = .ok (.invokevirtual 54, 3) := by decide +kernel
theorem dX6_applyRules_52 : decode cX6_applyRules 52 = .ok (.if_icmp .ge 24, 3) := by decide +kernel
theorem dX6_applyRules_55 : decode cX6_applyRules 55 = .ok (.aload_n 0, 1) := by decide +kernel
theorem dX6_applyRules_56 : decode cX6_applyRules 56 = .ok (.aload_n 0, 1) := by decide +kernel
theorem dX6_applyRules_57 : decode cX6_applyRules 57 = .ok (.getfield 22, 3) := by decide +kernel
theorem dX6_applyRules_60 : decode cX6_applyRules 60 = .ok (.iload_n 1, 1) := by decide +kernel
theorem dX6_applyRules_61 : decode cX6_applyRules 61 = .ok (.invokevirtual 84, 3) := by decide +kernel
theorem dX6_applyRules_64 : decode cX6_applyRules 64 = .ok (.checkcast 261, 3) := by decide +kernel
theorem dX6_applyRules_67 : decode cX6_applyRules 67 = .ok (.invokevirtual 281, 3) := by decide +kernel
theorem dX6_applyRules_70 : decode cX6_applyRules 70 = .ok (.iinc 1 1, 3) := by decide +kernel
theorem dX6_applyRules_73 : decode cX6_applyRules 73 = .ok (.goto (-29), 3) := by decide +kernel
theorem dX6_applyRules_76 : decode cX6_applyRules 76 = .ok (.return_, 1) := by decide +kernel
theorem dX6_applyRule_0 : decode cX6_applyRule 0 = .ok (.iconst 0, 1) := by decide +kernel
theorem dX6_applyRule_1 : decode cX6_applyRule 1 = .ok (.istore_n 2, 1) := by decide +kernel
theorem dX6_applyRule_2 : decode cX6_applyRule 2 = .ok (.iload_n 2, 1) := by decide +kernel
theorem dX6_applyRule_3 : decode cX6_applyRule 3 = .ok (.aload_n 0, 1) := by decide +kernel
theorem dX6_applyRule_4 : decode cX6_applyRule 4 = .ok (.getfield 16, 3) := by decide +kernel
theorem dX6_applyRule_7 : decode cX6_applyRule 7 = .ok (.invokevirtual 54, 3) := by decide +kernel
theorem dX6_applyRule_10 : decode cX6_applyRule 10 = .ok (.if_icmp .ge 125, 3) := by decide +kernel
theorem dX6_applyRule_13 : decode cX6_applyRule 13 = .ok (.aload_n 0, 1) := by decide +kernel
theorem dX6_applyRule_14 : decode cX6_applyRule 14 = .ok (.getfield 16, 3) := by decide +kernel
theorem dX6_applyRule_17 : decode cX6_applyRule 17 = .ok (.iload_n 2, 1) := by decide +kernel
theorem dX6_applyRule_18 : decode cX6_applyRule 18 = .ok (.invokevirtual 84, 3) := by decide +kernel
theorem dX6_applyRule_21 : decode cX6_applyRule 21 = .ok (.checkcast 165, 3) := by decide +kernel
theorem dX6_applyRule_24 : decode cX6_applyRule 24 = .ok (.astore_n 3, 1) := by decide +kernel
theorem dX6_applyRule_25 : decode cX6_applyRule 25 = .ok (.aload_n 3, 1) := by decide +kernel
theorem dX6_applyRule_26 : decode cX6_applyRule 26 = .ok (.invokevirtual 285, 3) := by decide +kernel
theorem dX6_applyRule_29 : decode cX6_applyRule 29 = .ok (.ifCond .eq 17, 3) := by decide +kernel
theorem dX6_applyRule_32 : decode cX6_applyRule 32 = .ok (.aload_n 1, 1) := by decide +kernel
theorem dX6_applyRule_33 : decode cX6_applyRule 33 = .ok (.aload_n 3, 1) := by decide +kernel
theorem dX6_applyRule_34 : decode cX6_applyRule 34 = .ok (.getfield 222, 3) := by decide +kernel
theorem dX6_applyRule_37 : decode cX6_applyRule 37 = .ok (.invokevirtual 288, 3) := by decide +kernel
theorem dX6_applyRule_40 : decode cX6_applyRule 40 = .ok (.ifCond .eq 6, 3) := by decide +kernel
theorem dX6_applyRule_43 : decode cX6_applyRule 43 = .ok (.goto 86, 3) := by decide +kernel
theorem dX6_applyRule_46 : decode cX6_applyRule 46 = .ok (.aload_n 1, 1) := by decide +kernel
theorem dX6_applyRule_47 : decode cX6_applyRule 47 = .ok (.getfield 291, 3) := by decide +kernel
theorem dX6_applyRule_50 : decode cX6_applyRule 50 = .ok (.tableswitch 79 0 4 #[34, 43, 52, 61, 70], 34) := by decide +kernel
theorem dX6_applyRule_84 : decode cX6_applyRule 84 = .ok (.aload_n 0, 1) := by decide +kernel
theorem dX6_applyRule_85 : decode cX6_applyRule 85 = .ok (.iload_n 2, 1) := by decide +kernel
theorem dX6_applyRule_86 : decode cX6_applyRule 86 = .ok (.aload_n 3, 1) := by decide +kernel
theorem dX6_applyRule_87 : decode cX6_applyRule 87 = .ok (.invokevirtual 292, 3) := by decide +kernel
theorem dX6_applyRule_90 : decode cX6_applyRule 90 = .ok (.goto 39, 3) := by decide +kernel
theorem dX6_applyRule_93 : decode cX6_applyRule 93 = .ok (.aload_n 0, 1) := by decide +kernel
theorem dX6_applyRule_94 : decode cX6_applyRule 94 = .ok (.iload_n 2, 1) := by decide +kernel
theorem dX6_applyRule_95 : decode cX6_applyRule 95 = .ok (.aload_n 3, 1) := by decide +kernel
theorem dX6_applyRule_96 : decode cX6_applyRule 96 = .ok (.invokevirtual 296, 3) := by decide +kernel
theorem dX6_applyRule_99 : decode cX6_applyRule 99 = .ok (.goto 30, 3) := by decide +kernel
theorem dX6_applyRule_102 : decode cX6_applyRule 102 = .ok (.aload_n 0, 1) := by decide +kernel
theorem dX6_applyRule_103 : decode cX6_applyRule 103 = .ok (.iload_n 2, 1) := by decide +kernel
theorem dX6_applyRule_104 : decode cX6_applyRule 104 = .ok (.aload_n 3, 1) := by decide +kernel
theorem dX6_applyRule_105 : decode cX6_applyRule 105 = .ok (.invokevirtual 299, 3) := by decide +kernel
theorem dX6_applyRule_108 : decode cX6_applyRule 108 = .ok (.goto 21, 3) := by decide +kernel
theorem dX6_applyRule_111 : decode cX6_applyRule 111 = .ok (.aload_n 0, 1) := by decide +kernel
theorem dX6_applyRule_112 : decode cX6_applyRule 112 = .ok (.iload_n 2, 1) := by decide +kernel
theorem dX6_applyRule_113 : decode cX6_applyRule 113 = .ok (.aload_n 3, 1) := by decide +kernel
theorem dX6_applyRule_114 : decode cX6_applyRule 114 = .ok (.invokevirtual 302, 3) := by decide +kernel
theorem dX6_applyRule_117 : decode cX6_applyRule 117 = .ok (.goto 12, 3) := by decide +kernel
theorem dX6_applyRule_120 : decode cX6_applyRule 120 = .ok (.aload_n 0, 1) := by decide +kernel
theorem dX6_applyRule_121 : decode cX6_applyRule 121 = .ok (.iload_n 2, 1) := by decide +kernel
theorem dX6_applyRule_122 : decode cX6_applyRule 122 = .ok (.aload_n 3, 1) := by decide +kernel
theorem dX6_applyRule_123 : decode cX6_applyRule 123 = .ok (.invokevirtual 305, 3) := by decide +kernel
theorem dX6_applyRule_126 : decode cX6_applyRule 126 = .ok (.goto 3, 3) := by decide +kernel
theorem dX6_applyRule_129 : decode cX6_applyRule 129 = .ok (.iinc 2 1, 3) := by decide +kernel
theorem dX6_applyRule_132 : decode cX6_applyRule 132 = .ok (.goto (-130), 3) := by decide +kernel
theorem dX6_applyRule_135 : decode cX6_applyRule 135 = .ok (.return_, 1) := by decide +kernel
theorem dX6_dropMirrored_0 : decode cX6_dropMirrored 0 = .ok (.aload_n 2, 1) := by decide +kernel
theorem dX6_dropMirrored_1 : decode cX6_dropMirrored 1 = .ok (.getfield 270, 3) := by decide +kernel
theorem dX6_dropMirrored_4 : decode cX6_dropMirrored 4 = .ok (.getfield 118, 3) := by decide +kernel
theorem dX6_dropMirrored_7 : decode cX6_dropMirrored 7 = .ok (.iconst 1, 1) := by decide +kernel
theorem dX6_dropMirrored_8 : decode cX6_dropMirrored 8 = .ok (.if_icmp .ne 31, 3) := by decide +kernel
theorem dX6_dropMirrored_11 : decode cX6_dropMirrored 11 = .ok (.aload_n 0, 1) := by decide +kernel
theorem dX6_dropMirrored_12 : decode cX6_dropMirrored 12 = .ok (.iload_n 1, 1) := by decide +kernel
theorem dX6_dropMirrored_13 : decode cX6_dropMirrored 13 = .ok (.iconst 1, 1) := by decide +kernel
theorem dX6_dropMirrored_14 : decode cX6_dropMirrored 14 = .ok (.isub, 1) := by decide +kernel
theorem dX6_dropMirrored_15 : decode cX6_dropMirrored 15 = .ok (.invokevirtual 308, 3) := by decide +kernel
theorem dX6_dropMirrored_18 : decode cX6_dropMirrored 18 = .ok (.ifCond .eq 21, 3) := by decide +kernel
theorem dX6_dropMirrored_21 : decode cX6_dropMirrored 21 = .ok (.aload_n 0, 1) := by decide +kernel
theorem dX6_dropMirrored_22 : decode cX6_dropMirrored 22 = .ok (.iload_n 1, 1) := by decide +kernel
theorem dX6_dropMirrored_23 : decode cX6_dropMirrored 23 = .ok (.iconst 1, 1) := by decide +kernel
theorem dX6_dropMirrored_24 : decode cX6_dropMirrored 24 = .ok (.iadd, 1) := by decide +kernel
theorem dX6_dropMirrored_25 : decode cX6_dropMirrored 25 = .ok (.invokevirtual 308, 3) := by decide +kernel
theorem dX6_dropMirrored_28 : decode cX6_dropMirrored 28 = .ok (.ifCond .eq 11, 3) := by decide +kernel
theorem dX6_dropMirrored_31 : decode cX6_dropMirrored 31 = .ok (.aload_n 2, 1) := by decide +kernel
theorem dX6_dropMirrored_32 : decode cX6_dropMirrored 32 = .ok (.getfield 270, 3) := by decide +kernel
theorem dX6_dropMirrored_35 : decode cX6_dropMirrored 35 = .ok (.iconst 0, 1) := by decide +kernel
theorem dX6_dropMirrored_36 : decode cX6_dropMirrored 36 = .ok (.putfield 118, 3) := by decide +kernel
theorem dX6_dropMirrored_39 : decode cX6_dropMirrored 39 = .ok (.return_, 1) := by decide +kernel
theorem dX6_hasNoSecond_0 : decode cX6_hasNoSecond 0 = .ok (.iload_n 1, 1) := by decide +kernel
theorem dX6_hasNoSecond_1 : decode cX6_hasNoSecond 1 = .ok (.aload_n 0, 1) := by decide +kernel
theorem dX6_hasNoSecond_2 : decode cX6_hasNoSecond 2 = .ok (.getfield 16, 3) := by decide +kernel
theorem dX6_hasNoSecond_5 : decode cX6_hasNoSecond 5 = .ok (.invokevirtual 54, 3) := by decide +kernel
theorem dX6_hasNoSecond_8 : decode cX6_hasNoSecond 8 = .ok (.invokestatic 38, 3) := by decide +kernel
theorem dX6_hasNoSecond_11 : decode cX6_hasNoSecond 11 = .ok (.ifCond .eq 23, 3) := by decide +kernel
theorem dX6_hasNoSecond_14 : decode cX6_hasNoSecond 14 = .ok (.aload_n 0, 1) := by decide +kernel
theorem dX6_hasNoSecond_15 : decode cX6_hasNoSecond 15 = .ok (.getfield 16, 3) := by decide +kernel
theorem dX6_hasNoSecond_18 : decode cX6_hasNoSecond 18 = .ok (.iload_n 1, 1) := by decide +kernel
theorem dX6_hasNoSecond_19 : decode cX6_hasNoSecond 19 = .ok (.invokevirtual 84, 3) := by decide +kernel
theorem dX6_hasNoSecond_22 : decode cX6_hasNoSecond 22 = .ok (.checkcast 165, 3) := by decide +kernel
theorem dX6_hasNoSecond_25 : decode cX6_hasNoSecond 25 = .ok (.getfield 270, 3) := by decide +kernel
theorem dX6_hasNoSecond_28 : decode cX6_hasNoSecond 28 = .ok (.getfield 118, 3) := by decide +kernel
theorem dX6_hasNoSecond_31 : decode cX6_hasNoSecond 31 = .ok (.ifCond .ne 7, 3) := by decide +kernel
theorem dX6_hasNoSecond_34 : decode cX6_hasNoSecond 34 = .ok (.iconst 1, 1) := by decide +kernel
theorem dX6_hasNoSecond_35 : decode cX6_hasNoSecond 35 = .ok (.goto 4, 3) := by decide +kernel
theorem dX6_hasNoSecond_38 : decode cX6_hasNoSecond 38 = .ok (.iconst 0, 1) := by decide +kernel
theorem dX6_hasNoSecond_39 : decode cX6_hasNoSecond 39 = .ok (.ireturn, 1) := by decide +kernel
theorem dX6_likenShape_0 : decode cX6_likenShape 0 = .ok (.aload_n 2, 1) := by decide +kernel
theorem dX6_likenShape_1 : decode cX6_likenShape 1 = .ok (.invokevirtual 246, 3) := by decide +kernel
theorem dX6_likenShape_4 : decode cX6_likenShape 4 = .ok (.ifCond .ne 4, 3) := by decide +kernel
theorem dX6_likenShape_7 : decode cX6_likenShape 7 = .ok (.return_, 1) := by decide +kernel
theorem dX6_likenShape_8 : decode cX6_likenShape 8 = .ok (.iload_n 1, 1) := by decide +kernel
theorem dX6_likenShape_9 : decode cX6_likenShape 9 = .ok (.iconst 1, 1) := by decide +kernel
theorem dX6_likenShape_10 : decode cX6_likenShape 10 = .ok (.iadd, 1) := by decide +kernel
theorem dX6_likenShape_11 : decode cX6_likenShape 11 = .ok (.aload_n 0, 1) := by decide +kernel
theorem dX6_likenShape_12 : decode cX6_likenShape 12 = .ok (.getfield 16, 3) := by decide +kernel
theorem dX6_likenShape_15 : decode cX6_likenShape 15 = .ok (.invokevirtual 54, 3) := by decide +kernel
theorem dX6_likenShape_18 : decode cX6_likenShape 18 = .ok (.if_icmp .lt 7, 3) := by decide +kernel
theorem dX6_likenShape_21 : decode cX6_likenShape 21 = .ok (.iconst 1, 1) := by decide +kernel
theorem dX6_likenShape_22 : decode cX6_likenShape 22 = .ok (.goto 4, 3) := by decide +kernel
theorem dX6_likenShape_25 : decode cX6_likenShape 25 = .ok (.iconst 0, 1) := by decide +kernel
theorem dX6_likenShape_26 : decode cX6_likenShape 26 = .ok (.istore_n 3, 1) := by decide +kernel
theorem dX6_likenShape_27 : decode cX6_likenShape 27 = .ok (.iload_n 3, 1) := by decide +kernel
theorem dX6_likenShape_28 : decode cX6_likenShape 28 = .ok (.ifCond .eq 9, 3) := by decide +kernel
theorem dX6_likenShape_31 : decode cX6_likenShape 31 = .ok (.iload_n 1, 1) := by decide +kernel
theorem dX6_likenShape_32 : decode cX6_likenShape 32 = .ok (.iconst 1, 1) := by decide +kernel
theorem dX6_likenShape_33 : decode cX6_likenShape 33 = .ok (.isub, 1) := by decide +kernel
theorem dX6_likenShape_34 : decode cX6_likenShape 34 = .ok (.goto 6, 3) := by decide +kernel
theorem dX6_likenShape_37 : decode cX6_likenShape 37 = .ok (.iload_n 1, 1) := by decide +kernel
theorem dX6_likenShape_38 : decode cX6_likenShape 38 = .ok (.iconst 1, 1) := by decide +kernel
theorem dX6_likenShape_39 : decode cX6_likenShape 39 = .ok (.iadd, 1) := by decide +kernel
theorem dX6_likenShape_40 : decode cX6_likenShape 40 = .ok (.istore 4, 2) := by decide +kernel
theorem dX6_likenShape_42 : decode cX6_likenShape 42 = .ok (.iload 4, 2) := by decide +kernel
theorem dX6_likenShape_44 : decode cX6_likenShape 44 = .ok (.aload_n 0, 1) := by decide +kernel
theorem dX6_likenShape_45 : decode cX6_likenShape 45 = .ok (.getfield 16, 3) := by decide +kernel
theorem dX6_likenShape_48 : decode cX6_likenShape 48 = .ok (.invokevirtual 54, 3) := by decide +kernel
theorem dX6_likenShape_51 : decode cX6_likenShape 51 = .ok (.invokestatic 38, 3) := by decide +kernel
theorem dX6_likenShape_54 : decode cX6_likenShape 54 = .ok (.ifCond .eq 28, 3) := by decide +kernel
theorem dX6_likenShape_57 : decode cX6_likenShape 57 = .ok (.aload_n 2, 1) := by decide +kernel
theorem dX6_likenShape_58 : decode cX6_likenShape 58 = .ok (.getfield 270, 3) := by decide +kernel
theorem dX6_likenShape_61 : decode cX6_likenShape 61 = .ok (.aload_n 0, 1) := by decide +kernel
theorem dX6_likenShape_62 : decode cX6_likenShape 62 = .ok (.getfield 16, 3) := by decide +kernel
theorem dX6_likenShape_65 : decode cX6_likenShape 65 = .ok (.iload 4, 2) := by decide +kernel
theorem dX6_likenShape_67 : decode cX6_likenShape 67 = .ok (.invokevirtual 84, 3) := by decide +kernel
theorem dX6_likenShape_70 : decode cX6_likenShape 70 = .ok (.checkcast 165, 3) := by decide +kernel
theorem dX6_likenShape_73 : decode cX6_likenShape 73 = .ok (.getfield 270, 3) := by decide +kernel
theorem dX6_likenShape_76 : decode cX6_likenShape 76 = .ok (.getfield 102, 3) := by decide +kernel
theorem dX6_likenShape_79 : decode cX6_likenShape 79 = .ok (.putfield 102, 3) := by decide +kernel
theorem dX6_likenShape_82 : decode cX6_likenShape 82 = .ok (.return_, 1) := by decide +kernel
theorem dX6_easeTurn_0 : decode cX6_easeTurn 0 = .ok (.aload_n 0, 1) := by decide +kernel
theorem dX6_easeTurn_1 : decode cX6_easeTurn 1 = .ok (.iload_n 1, 1) := by decide +kernel
theorem dX6_easeTurn_2 : decode cX6_easeTurn 2 = .ok (.invokevirtual 311, 3) := by decide +kernel
theorem dX6_easeTurn_5 : decode cX6_easeTurn 5 = .ok (.ifCond .ne 4, 3) := by decide +kernel
theorem dX6_easeTurn_8 : decode cX6_easeTurn 8 = .ok (.return_, 1) := by decide +kernel
theorem dX6_easeTurn_9 : decode cX6_easeTurn 9 = .ok (.aload_n 0, 1) := by decide +kernel
theorem dX6_easeTurn_10 : decode cX6_easeTurn 10 = .ok (.getfield 16, 3) := by decide +kernel
theorem dX6_easeTurn_13 : decode cX6_easeTurn 13 = .ok (.iload_n 1, 1) := by decide +kernel
theorem dX6_easeTurn_14 : decode cX6_easeTurn 14 = .ok (.iconst 1, 1) := by decide +kernel
theorem dX6_easeTurn_15 : decode cX6_easeTurn 15 = .ok (.isub, 1) := by decide +kernel
theorem dX6_easeTurn_16 : decode cX6_easeTurn 16 = .ok (.invokevirtual 84, 3) := by decide +kernel
theorem dX6_easeTurn_19 : decode cX6_easeTurn 19 = .ok (.checkcast 165, 3) := by decide +kernel
theorem dX6_easeTurn_22 : decode cX6_easeTurn 22 = .ok (.getfield 270, 3) := by decide +kernel
theorem dX6_easeTurn_25 : decode cX6_easeTurn 25 = .ok (.getfield 115, 3) := by decide +kernel
theorem dX6_easeTurn_28 : decode cX6_easeTurn 28 = .ok (.istore_n 3, 1) := by decide +kernel
theorem dX6_easeTurn_29 : decode cX6_easeTurn 29 = .ok (.iload_n 3, 1) := by decide +kernel
theorem dX6_easeTurn_30 : decode cX6_easeTurn 30 = .ok (.aload_n 2, 1) := by decide +kernel
theorem dX6_easeTurn_31 : decode cX6_easeTurn 31 = .ok (.getfield 270, 3) := by decide +kernel
theorem dX6_easeTurn_34 : decode cX6_easeTurn 34 = .ok (.getfield 112, 3) := by decide +kernel
theorem dX6_easeTurn_37 : decode cX6_easeTurn 37 = .ok (.isub, 1) := by decide +kernel
theorem dX6_easeTurn_38 : decode cX6_easeTurn 38 = .ok (.invokestatic 314, 3) := by decide +kernel
theorem dX6_easeTurn_41 : decode cX6_easeTurn 41 = .ok (.iconst 2, 1) := by decide +kernel
theorem dX6_easeTurn_42 : decode cX6_easeTurn 42 = .ok (.if_icmp .ne 11, 3) := by decide +kernel
theorem dX6_easeTurn_45 : decode cX6_easeTurn 45 = .ok (.aload_n 2, 1) := by decide +kernel
theorem dX6_easeTurn_46 : decode cX6_easeTurn 46 = .ok (.getfield 270, 3) := by decide +kernel
theorem dX6_easeTurn_49 : decode cX6_easeTurn 49 = .ok (.iload_n 3, 1) := by decide +kernel
theorem dX6_easeTurn_50 : decode cX6_easeTurn 50 = .ok (.putfield 112, 3) := by decide +kernel
theorem dX6_easeTurn_53 : decode cX6_easeTurn 53 = .ok (.return_, 1) := by decide +kernel
theorem dX6_swapEnds_0 : decode cX6_swapEnds 0 = .ok (.aload_n 2, 1) := by decide +kernel
theorem dX6_swapEnds_1 : decode cX6_swapEnds 1 = .ok (.getfield 219, 3) := by decide +kernel
theorem dX6_swapEnds_4 : decode cX6_swapEnds 4 = .ok (.ifCond .ne 21, 3) := by decide +kernel
theorem dX6_swapEnds_7 : decode cX6_swapEnds 7 = .ok (.aload_n 0, 1) := by decide +kernel
theorem dX6_swapEnds_8 : decode cX6_swapEnds 8 = .ok (.iload_n 1, 1) := by decide +kernel
theorem dX6_swapEnds_9 : decode cX6_swapEnds 9 = .ok (.invokevirtual 311, 3) := by decide +kernel
theorem dX6_swapEnds_12 : decode cX6_swapEnds 12 = .ok (.ifCond .eq 13, 3) := by decide +kernel
theorem dX6_swapEnds_15 : decode cX6_swapEnds 15 = .ok (.aload_n 2, 1) := by decide +kernel
theorem dX6_swapEnds_16 : decode cX6_swapEnds 16 = .ok (.getfield 270, 3) := by decide +kernel
theorem dX6_swapEnds_19 : decode cX6_swapEnds 19 = .ok (.invokevirtual 317, 3) := by decide +kernel
theorem dX6_swapEnds_22 : decode cX6_swapEnds 22 = .ok (.ifCond .ne 4, 3) := by decide +kernel
theorem dX6_swapEnds_25 : decode cX6_swapEnds 25 = .ok (.return_, 1) := by decide +kernel
theorem dX6_swapEnds_26 : decode cX6_swapEnds 26 = .ok (.aload_n 0, 1) := by decide +kernel
theorem dX6_swapEnds_27 : decode cX6_swapEnds 27 = .ok (.getfield 16, 3) := by decide +kernel
theorem dX6_swapEnds_30 : decode cX6_swapEnds 30 = .ok (.iload_n 1, 1) := by decide +kernel
theorem dX6_swapEnds_31 : decode cX6_swapEnds 31 = .ok (.iconst 1, 1) := by decide +kernel
theorem dX6_swapEnds_32 : decode cX6_swapEnds 32 = .ok (.isub, 1) := by decide +kernel
theorem dX6_swapEnds_33 : decode cX6_swapEnds 33 = .ok (.invokevirtual 84, 3) := by decide +kernel
theorem dX6_swapEnds_36 : decode cX6_swapEnds 36 = .ok (.checkcast 165, 3) := by decide +kernel
theorem dX6_swapEnds_39 : decode cX6_swapEnds 39 = .ok (.getfield 270, 3) := by decide +kernel
theorem dX6_swapEnds_42 : decode cX6_swapEnds 42 = .ok (.getfield 109, 3) := by decide +kernel
theorem dX6_swapEnds_45 : decode cX6_swapEnds 45 = .ok (.istore_n 3, 1) := by decide +kernel
theorem dX6_swapEnds_46 : decode cX6_swapEnds 46 = .ok (.aload_n 2, 1) := by decide +kernel
theorem dX6_swapEnds_47 : decode cX6_swapEnds 47 = .ok (.getfield 270, 3) := by decide +kernel
theorem dX6_swapEnds_50 : decode cX6_swapEnds 50 = .ok (.getfield 106, 3) := by decide +kernel
theorem dX6_swapEnds_53 : decode cX6_swapEnds 53 = .ok (.istore 4, 2) := by decide +kernel
theorem dX6_swapEnds_55 : decode cX6_swapEnds 55 = .ok (.aload_n 2, 1) := by decide +kernel
theorem dX6_swapEnds_56 : decode cX6_swapEnds 56 = .ok (.getfield 270, 3) := by decide +kernel
theorem dX6_swapEnds_59 : decode cX6_swapEnds 59 = .ok (.getfield 109, 3) := by decide +kernel
theorem dX6_swapEnds_62 : decode cX6_swapEnds 62 = .ok (.istore 5, 2) := by decide +kernel
theorem dX6_swapEnds_64 : decode cX6_swapEnds 64 = .ok (.iload_n 3, 1) := by decide +kernel
theorem dX6_swapEnds_65 : decode cX6_swapEnds 65 = .ok (.iload 5, 2) := by decide +kernel
theorem dX6_swapEnds_67 : decode cX6_swapEnds 67 = .ok (.invokestatic 320, 3) := by decide +kernel
theorem dX6_swapEnds_70 : decode cX6_swapEnds 70 = .ok (.iload_n 3, 1) := by decide +kernel
theorem dX6_swapEnds_71 : decode cX6_swapEnds 71 = .ok (.iload 4, 2) := by decide +kernel
theorem dX6_swapEnds_73 : decode cX6_swapEnds 73 = .ok (.invokestatic 320, 3) := by decide +kernel
theorem dX6_swapEnds_76 : decode cX6_swapEnds 76 = .ok (.if_icmp .ge 21, 3) := by decide +kernel
theorem dX6_swapEnds_79 : decode cX6_swapEnds 79 = .ok (.aload_n 2, 1) := by decide +kernel
theorem dX6_swapEnds_80 : decode cX6_swapEnds 80 = .ok (.getfield 270, 3) := by decide +kernel
theorem dX6_swapEnds_83 : decode cX6_swapEnds 83 = .ok (.iload 5, 2) := by decide +kernel
theorem dX6_swapEnds_85 : decode cX6_swapEnds 85 = .ok (.putfield 106, 3) := by decide +kernel
theorem dX6_swapEnds_88 : decode cX6_swapEnds 88 = .ok (.aload_n 2, 1) := by decide +kernel
theorem dX6_swapEnds_89 : decode cX6_swapEnds 89 = .ok (.getfield 270, 3) := by decide +kernel
theorem dX6_swapEnds_92 : decode cX6_swapEnds 92 = .ok (.iload 4, 2) := by decide +kernel
theorem dX6_swapEnds_94 : decode cX6_swapEnds 94 = .ok (.putfield 109, 3) := by decide +kernel
theorem dX6_swapEnds_97 : decode cX6_swapEnds 97 = .ok (.return_, 1) := by decide +kernel
theorem dX6_slideLetter_0 : decode cX6_slideLetter 0 = .ok (.aload_n 2, 1) := by decide +kernel
theorem dX6_slideLetter_1 : decode cX6_slideLetter 1 = .ok (.getfield 219, 3) := by decide +kernel
theorem dX6_slideLetter_4 : decode cX6_slideLetter 4 = .ok (.iconst 5, 1) := by decide +kernel
theorem dX6_slideLetter_5 : decode cX6_slideLetter 5 = .ok (.if_icmp .ne 11, 3) := by decide +kernel
theorem dX6_slideLetter_8 : decode cX6_slideLetter 8 = .ok (.aload_n 0, 1) := by decide +kernel
theorem dX6_slideLetter_9 : decode cX6_slideLetter 9 = .ok (.iload_n 1, 1) := by decide +kernel
theorem dX6_slideLetter_10 : decode cX6_slideLetter 10 = .ok (.invokevirtual 311, 3) := by decide +kernel
theorem dX6_slideLetter_13 : decode cX6_slideLetter 13 = .ok (.ifCond .ne 4, 3) := by decide +kernel
theorem dX6_slideLetter_16 : decode cX6_slideLetter 16 = .ok (.return_, 1) := by decide +kernel
theorem dX6_slideLetter_17 : decode cX6_slideLetter 17 = .ok (.aload_n 0, 1) := by decide +kernel
theorem dX6_slideLetter_18 : decode cX6_slideLetter 18 = .ok (.getfield 16, 3) := by decide +kernel
theorem dX6_slideLetter_21 : decode cX6_slideLetter 21 = .ok (.iload_n 1, 1) := by decide +kernel
theorem dX6_slideLetter_22 : decode cX6_slideLetter 22 = .ok (.iconst 1, 1) := by decide +kernel
theorem dX6_slideLetter_23 : decode cX6_slideLetter 23 = .ok (.isub, 1) := by decide +kernel
theorem dX6_slideLetter_24 : decode cX6_slideLetter 24 = .ok (.invokevirtual 84, 3) := by decide +kernel
theorem dX6_slideLetter_27 : decode cX6_slideLetter 27 = .ok (.checkcast 165, 3) := by decide +kernel
theorem dX6_slideLetter_30 : decode cX6_slideLetter 30 = .ok (.astore_n 3, 1) := by decide +kernel
theorem dX6_slideLetter_31 : decode cX6_slideLetter 31 = .ok (.aload_n 3, 1) := by decide +kernel
theorem dX6_slideLetter_32 : decode cX6_slideLetter 32 = .ok (.getfield 219, 3) := by decide +kernel
theorem dX6_slideLetter_35 : decode cX6_slideLetter 35 = .ok (.iconst 5, 1) := by decide +kernel
theorem dX6_slideLetter_36 : decode cX6_slideLetter 36 = .ok (.if_icmp .ne 30, 3) := by decide +kernel
theorem dX6_slideLetter_39 : decode cX6_slideLetter 39 = .ok (.aload_n 3, 1) := by decide +kernel
theorem dX6_slideLetter_40 : decode cX6_slideLetter 40 = .ok (.getfield 222, 3) := by decide +kernel
theorem dX6_slideLetter_43 : decode cX6_slideLetter 43 = .ok (.aload_n 2, 1) := by decide +kernel
theorem dX6_slideLetter_44 : decode cX6_slideLetter 44 = .ok (.getfield 222, 3) := by decide +kernel
theorem dX6_slideLetter_47 : decode cX6_slideLetter 47 = .ok (.if_icmp .ne 19, 3) := by decide +kernel
theorem dX6_slideLetter_50 : decode cX6_slideLetter 50 = .ok (.aload_n 2, 1) := by decide +kernel
theorem dX6_slideLetter_51 : decode cX6_slideLetter 51 = .ok (.getfield 270, 3) := by decide +kernel
theorem dX6_slideLetter_54 : decode cX6_slideLetter 54 = .ok (.iconst 4, 1) := by decide +kernel
theorem dX6_slideLetter_55 : decode cX6_slideLetter 55 = .ok (.putfield 106, 3) := by decide +kernel
theorem dX6_slideLetter_58 : decode cX6_slideLetter 58 = .ok (.aload_n 2, 1) := by decide +kernel
theorem dX6_slideLetter_59 : decode cX6_slideLetter 59 = .ok (.getfield 270, 3) := by decide +kernel
theorem dX6_slideLetter_62 : decode cX6_slideLetter 62 = .ok (.iconst 5, 1) := by decide +kernel
theorem dX6_slideLetter_63 : decode cX6_slideLetter 63 = .ok (.putfield 109, 3) := by decide +kernel
theorem dX6_slideLetter_66 : decode cX6_slideLetter 66 = .ok (.return_, 1) := by decide +kernel
theorem dX6_hasItemAhead_0 : decode cX6_hasItemAhead 0 = .ok (.iload_n 1, 1) := by decide +kernel
theorem dX6_hasItemAhead_1 : decode cX6_hasItemAhead 1 = .ok (.iconst 1, 1) := by decide +kernel
theorem dX6_hasItemAhead_2 : decode cX6_hasItemAhead 2 = .ok (.isub, 1) := by decide +kernel
theorem dX6_hasItemAhead_3 : decode cX6_hasItemAhead 3 = .ok (.aload_n 0, 1) := by decide +kernel
theorem dX6_hasItemAhead_4 : decode cX6_hasItemAhead 4 = .ok (.getfield 16, 3) := by decide +kernel
theorem dX6_hasItemAhead_7 : decode cX6_hasItemAhead 7 = .ok (.invokevirtual 54, 3) := by decide +kernel
theorem dX6_hasItemAhead_10 : decode cX6_hasItemAhead 10 = .ok (.invokestatic 38, 3) := by decide +kernel
theorem dX6_hasItemAhead_13 : decode cX6_hasItemAhead 13 = .ok (.ireturn, 1) := by decide +kernel
theorem dX6_signed_0 : decode cX6_signed 0 = .ok (.aload_n 0, 1) := by decide +kernel
theorem dX6_signed_1 : decode cX6_signed 1 = .ok (.iload_n 1, 1) := by decide +kernel
theorem dX6_signed_2 : decode cX6_signed 2 = .ok (.invokevirtual 177, 3) := by decide +kernel
theorem dX6_signed_5 : decode cX6_signed 5 = .ok (.iload_n 2, 1) := by decide +kernel
theorem dX6_signed_6 : decode cX6_signed 6 = .ok (.bipush 9, 2) := by decide +kernel
theorem dX6_signed_8 : decode cX6_signed 8 = .ok (.invokestatic 38, 3) := by decide +kernel
theorem dX6_signed_11 : decode cX6_signed 11 = .ok (.ifCond .ne 13, 3) := by decide +kernel
theorem dX6_signed_14 : decode cX6_signed 14 = .ok (.new 42, 3) := by decide +kernel
theorem dX6_signed_17 : decode cX6_signed 17 = .ok (.dup, 1) := by decide +kernel
theorem dX6_signed_18 : decode cX6_signed 18 = .ok (.ldc 82, 2) := by decide +kernel
theorem dX6_signed_20 : decode cX6_signed 20 = .ok (.invokespecial 46, 3) := by decide +kernel
theorem dX6_signed_23 : decode cX6_signed 23 = .ok (.athrow, 1) := by decide +kernel
theorem dX6_signed_24 : decode cX6_signed 24 = .ok (.aload_n 0, 1) := by decide +kernel
theorem dX6_signed_25 : decode cX6_signed 25 = .ok (.invokevirtual 323, 3) := by decide +kernel
theorem dX6_signed_28 : decode cX6_signed 28 = .ok (.aload_n 0, 1) := by decide +kernel
theorem dX6_signed_29 : decode cX6_signed 29 = .ok (.getfield 16, 3) := by decide +kernel
theorem dX6_signed_32 : decode cX6_signed 32 = .ok (.iload_n 1, 1) := by decide +kernel
theorem dX6_signed_33 : decode cX6_signed 33 = .ok (.invokevirtual 84, 3) := by decide +kernel
theorem dX6_signed_36 : decode cX6_signed 36 = .ok (.checkcast 165, 3) := by decide +kernel
theorem dX6_signed_39 : decode cX6_signed 39 = .ok (.astore_n 3, 1) := by decide +kernel
theorem dX6_signed_40 : decode cX6_signed 40 = .ok (.iload_n 2, 1) := by decide +kernel
theorem dX6_signed_41 : decode cX6_signed 41 = .ok (.tableswitch 105 0 7 #[47, 55, 63, 71, 79, 87, 95, 100], 47) := by decide +kernel
theorem dX6_signed_88 : decode cX6_signed 88 = .ok (.aload_n 3, 1) := by decide +kernel
theorem dX6_signed_89 : decode cX6_signed 89 = .ok (.getfield 270, 3) := by decide +kernel
theorem dX6_signed_92 : decode cX6_signed 92 = .ok (.getfield 102, 3) := by decide +kernel
theorem dX6_signed_95 : decode cX6_signed 95 = .ok (.ireturn, 1) := by decide +kernel
theorem dX6_signed_96 : decode cX6_signed 96 = .ok (.aload_n 3, 1) := by decide +kernel
theorem dX6_signed_97 : decode cX6_signed 97 = .ok (.getfield 270, 3) := by decide +kernel
theorem dX6_signed_100 : decode cX6_signed 100 = .ok (.getfield 106, 3) := by decide +kernel
theorem dX6_signed_103 : decode cX6_signed 103 = .ok (.ireturn, 1) := by decide +kernel
theorem dX6_signed_104 : decode cX6_signed 104 = .ok (.aload_n 3, 1) := by decide +kernel
theorem dX6_signed_105 : decode cX6_signed 105 = .ok (.getfield 270, 3) := by decide +kernel
theorem dX6_signed_108 : decode cX6_signed 108 = .ok (.getfield 109, 3) := by decide +kernel
theorem dX6_signed_111 : decode cX6_signed 111 = .ok (.ireturn, 1) := by decide +kernel
theorem dX6_signed_112 : decode cX6_signed 112 = .ok (.aload_n 3, 1) := by decide +kernel
theorem dX6_signed_113 : decode cX6_signed 113 = .ok (.getfield 270, 3) := by decide +kernel
theorem dX6_signed_116 : decode cX6_signed 116 = .ok (.getfield 112, 3) := by decide +kernel
theorem dX6_signed_119 : decode cX6_signed 119 = .ok (.ireturn, 1) := by decide +kernel
theorem dX6_signed_120 : decode cX6_signed 120 = .ok (.aload_n 3, 1) := by decide +kernel
theorem dX6_signed_121 : decode cX6_signed 121 = .ok (.getfield 270, 3) := by decide +kernel
theorem dX6_signed_124 : decode cX6_signed 124 = .ok (.getfield 115, 3) := by decide +kernel
theorem dX6_signed_127 : decode cX6_signed 127 = .ok (.ireturn, 1) := by decide +kernel
theorem dX6_signed_128 : decode cX6_signed 128 = .ok (.aload_n 3, 1) := by decide +kernel
theorem dX6_signed_129 : decode cX6_signed 129 = .ok (.getfield 270, 3) := by decide +kernel
theorem dX6_signed_132 : decode cX6_signed 132 = .ok (.getfield 118, 3) := by decide +kernel
theorem dX6_signed_135 : decode cX6_signed 135 = .ok (.ireturn, 1) := by decide +kernel
theorem dX6_signed_136 : decode cX6_signed 136 = .ok (.aload_n 3, 1) := by decide +kernel
theorem dX6_signed_137 : decode cX6_signed 137 = .ok (.getfield 326, 3) := by decide +kernel
theorem dX6_signed_140 : decode cX6_signed 140 = .ok (.ireturn, 1) := by decide +kernel
theorem dX6_signed_141 : decode cX6_signed 141 = .ok (.aload_n 3, 1) := by decide +kernel
theorem dX6_signed_142 : decode cX6_signed 142 = .ok (.getfield 329, 3) := by decide +kernel
theorem dX6_signed_145 : decode cX6_signed 145 = .ok (.ireturn, 1) := by decide +kernel
theorem dX6_signed_146 : decode cX6_signed 146 = .ok (.aload_n 3, 1) := by decide +kernel
theorem dX6_signed_147 : decode cX6_signed 147 = .ok (.getfield 332, 3) := by decide +kernel
theorem dX6_signed_150 : decode cX6_signed 150 = .ok (.ireturn, 1) := by decide +kernel
theorem dX6_at_0 : decode cX6_at 0 = .ok (.iload_n 1, 1) := by decide +kernel
theorem dX6_at_1 : decode cX6_at 1 = .ok (.ifCond .ge 14, 3) := by decide +kernel
theorem dX6_at_4 : decode cX6_at 4 = .ok (.new 140, 3) := by decide +kernel
theorem dX6_at_7 : decode cX6_at 7 = .ok (.dup, 1) := by decide +kernel
theorem dX6_at_8 : decode cX6_at 8 = .ok (.ldc_w 335, 3) := by decide +kernel
theorem dX6_at_11 : decode cX6_at 11 = .ok (.invokespecial 144, 3) := by decide +kernel
theorem dX6_at_14 : decode cX6_at 14 = .ok (.athrow, 1) := by decide +kernel
theorem dX6_at_15 : decode cX6_at 15 = .ok (.iload_n 2, 1) := by decide +kernel
theorem dX6_at_16 : decode cX6_at 16 = .ok (.bipush 8, 2) := by decide +kernel
theorem dX6_at_18 : decode cX6_at 18 = .ok (.invokestatic 38, 3) := by decide +kernel
theorem dX6_at_21 : decode cX6_at 21 = .ok (.ifCond .ne 13, 3) := by decide +kernel
theorem dX6_at_24 : decode cX6_at 24 = .ok (.new 42, 3) := by decide +kernel
theorem dX6_at_27 : decode cX6_at 27 = .ok (.dup, 1) := by decide +kernel
theorem dX6_at_28 : decode cX6_at 28 = .ok (.ldc 82, 2) := by decide +kernel
theorem dX6_at_30 : decode cX6_at 30 = .ok (.invokespecial 46, 3) := by decide +kernel
theorem dX6_at_33 : decode cX6_at 33 = .ok (.athrow, 1) := by decide +kernel
theorem dX6_at_34 : decode cX6_at 34 = .ok (.aload_n 0, 1) := by decide +kernel
theorem dX6_at_35 : decode cX6_at 35 = .ok (.invokevirtual 323, 3) := by decide +kernel
theorem dX6_at_38 : decode cX6_at 38 = .ok (.aload_n 0, 1) := by decide +kernel
theorem dX6_at_39 : decode cX6_at 39 = .ok (.iload_n 1, 1) := by decide +kernel
theorem dX6_at_40 : decode cX6_at 40 = .ok (.invokevirtual 337, 3) := by decide +kernel
theorem dX6_at_43 : decode cX6_at 43 = .ok (.istore_n 3, 1) := by decide +kernel
theorem dX6_at_44 : decode cX6_at 44 = .ok (.iload_n 3, 1) := by decide +kernel
theorem dX6_at_45 : decode cX6_at 45 = .ok (.aload_n 0, 1) := by decide +kernel
theorem dX6_at_46 : decode cX6_at 46 = .ok (.getfield 16, 3) := by decide +kernel
theorem dX6_at_49 : decode cX6_at 49 = .ok (.invokevirtual 54, 3) := by decide +kernel
theorem dX6_at_52 : decode cX6_at 52 = .ok (.invokestatic 38, 3) := by decide +kernel
theorem dX6_at_55 : decode cX6_at 55 = .ok (.ifCond .ne 5, 3) := by decide +kernel
theorem dX6_at_58 : decode cX6_at 58 = .ok (.iconst (-1), 1) := by decide +kernel
theorem dX6_at_59 : decode cX6_at 59 = .ok (.ireturn, 1) := by decide +kernel
theorem dX6_at_60 : decode cX6_at 60 = .ok (.aload_n 0, 1) := by decide +kernel
theorem dX6_at_61 : decode cX6_at 61 = .ok (.getfield 16, 3) := by decide +kernel
theorem dX6_at_64 : decode cX6_at 64 = .ok (.iload_n 3, 1) := by decide +kernel
theorem dX6_at_65 : decode cX6_at 65 = .ok (.invokevirtual 84, 3) := by decide +kernel
theorem dX6_at_68 : decode cX6_at 68 = .ok (.checkcast 165, 3) := by decide +kernel
theorem dX6_at_71 : decode cX6_at 71 = .ok (.astore 4, 2) := by decide +kernel
theorem dX6_at_73 : decode cX6_at 73 = .ok (.iload_n 1, 1) := by decide +kernel
theorem dX6_at_74 : decode cX6_at 74 = .ok (.aload 4, 2) := by decide +kernel
theorem dX6_at_76 : decode cX6_at 76 = .ok (.getfield 329, 3) := by decide +kernel
theorem dX6_at_79 : decode cX6_at 79 = .ok (.if_icmp .ge 7, 3) := by decide +kernel
theorem dX6_at_82 : decode cX6_at 82 = .ok (.iconst 1, 1) := by decide +kernel
theorem dX6_at_83 : decode cX6_at 83 = .ok (.goto 4, 3) := by decide +kernel
theorem dX6_at_86 : decode cX6_at 86 = .ok (.iconst 0, 1) := by decide +kernel
theorem dX6_at_87 : decode cX6_at 87 = .ok (.istore 5, 2) := by decide +kernel
theorem dX6_at_89 : decode cX6_at 89 = .ok (.iload_n 2, 1) := by decide +kernel
theorem dX6_at_90 : decode cX6_at 90 = .ok (.tableswitch 119 0 7 #[46, 55, 76, 99, 119, 119, 119, 117], 46) := by decide +kernel
theorem dX6_at_136 : decode cX6_at 136 = .ok (.aload 4, 2) := by decide +kernel
theorem dX6_at_138 : decode cX6_at 138 = .ok (.getfield 270, 3) := by decide +kernel
theorem dX6_at_141 : decode cX6_at 141 = .ok (.getfield 102, 3) := by decide +kernel
theorem dX6_at_144 : decode cX6_at 144 = .ok (.ireturn, 1) := by decide +kernel
theorem dX6_at_145 : decode cX6_at 145 = .ok (.iload 5, 2) := by decide +kernel
theorem dX6_at_147 : decode cX6_at 147 = .ok (.ifCond .eq 12, 3) := by decide +kernel
theorem dX6_at_150 : decode cX6_at 150 = .ok (.aload_n 0, 1) := by decide +kernel
theorem dX6_at_151 : decode cX6_at 151 = .ok (.iload_n 3, 1) := by decide +kernel
theorem dX6_at_152 : decode cX6_at 152 = .ok (.iload_n 1, 1) := by decide +kernel
theorem dX6_at_153 : decode cX6_at 153 = .ok (.invokevirtual 340, 3) := by decide +kernel
theorem dX6_at_156 : decode cX6_at 156 = .ok (.goto 9, 3) := by decide +kernel
theorem dX6_at_159 : decode cX6_at 159 = .ok (.aload 4, 2) := by decide +kernel
theorem dX6_at_161 : decode cX6_at 161 = .ok (.iload_n 1, 1) := by decide +kernel
theorem dX6_at_162 : decode cX6_at 162 = .ok (.invokestatic 343, 3) := by decide +kernel
theorem dX6_at_165 : decode cX6_at 165 = .ok (.ireturn, 1) := by decide +kernel
theorem dX6_at_166 : decode cX6_at 166 = .ok (.iload 5, 2) := by decide +kernel
theorem dX6_at_168 : decode cX6_at 168 = .ok (.ifCond .eq 14, 3) := by decide +kernel
theorem dX6_at_171 : decode cX6_at 171 = .ok (.aload 4, 2) := by decide +kernel
theorem dX6_at_173 : decode cX6_at 173 = .ok (.getfield 270, 3) := by decide +kernel
theorem dX6_at_176 : decode cX6_at 176 = .ok (.getfield 112, 3) := by decide +kernel
theorem dX6_at_179 : decode cX6_at 179 = .ok (.goto 9, 3) := by decide +kernel
theorem dX6_at_182 : decode cX6_at 182 = .ok (.aload 4, 2) := by decide +kernel
theorem dX6_at_184 : decode cX6_at 184 = .ok (.iload_n 1, 1) := by decide +kernel
theorem dX6_at_185 : decode cX6_at 185 = .ok (.invokestatic 347, 3) := by decide +kernel
theorem dX6_at_188 : decode cX6_at 188 = .ok (.ireturn, 1) := by decide +kernel
theorem dX6_at_189 : decode cX6_at 189 = .ok (.iload 5, 2) := by decide +kernel
theorem dX6_at_191 : decode cX6_at 191 = .ok (.ifCond .eq 7, 3) := by decide +kernel
theorem dX6_at_194 : decode cX6_at 194 = .ok (.iconst 0, 1) := by decide +kernel
theorem dX6_at_195 : decode cX6_at 195 = .ok (.goto 11, 3) := by decide +kernel
theorem dX6_at_198 : decode cX6_at 198 = .ok (.aload 4, 2) := by decide +kernel
theorem dX6_at_200 : decode cX6_at 200 = .ok (.getfield 270, 3) := by decide +kernel
theorem dX6_at_203 : decode cX6_at 203 = .ok (.getfield 118, 3) := by decide +kernel
theorem dX6_at_206 : decode cX6_at 206 = .ok (.ireturn, 1) := by decide +kernel
theorem dX6_at_207 : decode cX6_at 207 = .ok (.iload_n 3, 1) := by decide +kernel
theorem dX6_at_208 : decode cX6_at 208 = .ok (.ireturn, 1) := by decide +kernel
theorem dX6_at_209 : decode cX6_at 209 = .ok (.aload_n 0, 1) := by decide +kernel
theorem dX6_at_210 : decode cX6_at 210 = .ok (.iload_n 3, 1) := by decide +kernel
theorem dX6_at_211 : decode cX6_at 211 = .ok (.iload_n 2, 1) := by decide +kernel
theorem dX6_at_212 : decode cX6_at 212 = .ok (.iconst 4, 1) := by decide +kernel
theorem dX6_at_213 : decode cX6_at 213 = .ok (.isub, 1) := by decide +kernel
theorem dX6_at_214 : decode cX6_at 214 = .ok (.invokevirtual 199, 3) := by decide +kernel
theorem dX6_at_217 : decode cX6_at 217 = .ok (.ireturn, 1) := by decide +kernel
theorem dX6_readBack_0 : decode cX6_readBack 0 = .ok (.aload_n 0, 1) := by decide +kernel
theorem dX6_readBack_1 : decode cX6_readBack 1 = .ok (.iload_n 1, 1) := by decide +kernel
theorem dX6_readBack_2 : decode cX6_readBack 2 = .ok (.invokevirtual 177, 3) := by decide +kernel
theorem dX6_readBack_5 : decode cX6_readBack 5 = .ok (.iload_n 2, 1) := by decide +kernel
theorem dX6_readBack_6 : decode cX6_readBack 6 = .ok (.iconst 3, 1) := by decide +kernel
theorem dX6_readBack_7 : decode cX6_readBack 7 = .ok (.invokestatic 38, 3) := by decide +kernel
theorem dX6_readBack_10 : decode cX6_readBack 10 = .ok (.ifCond .ne 13, 3) := by decide +kernel
theorem dX6_readBack_13 : decode cX6_readBack 13 = .ok (.new 42, 3) := by decide +kernel
theorem dX6_readBack_16 : decode cX6_readBack 16 = .ok (.dup, 1) := by decide +kernel
theorem dX6_readBack_17 : decode cX6_readBack 17 = .ok (.ldc 82, 2) := by decide +kernel
theorem dX6_readBack_19 : decode cX6_readBack 19 = .ok (.invokespecial 46, 3) := by decide +kernel
theorem dX6_readBack_22 : decode cX6_readBack 22 = .ok (.athrow, 1) := by decide +kernel
theorem dX6_readBack_23 : decode cX6_readBack 23 = .ok (.aload_n 0, 1) := by decide +kernel
theorem dX6_readBack_24 : decode cX6_readBack 24 = .ok (.invokevirtual 350, 3) := by decide +kernel
theorem dX6_readBack_27 : decode cX6_readBack 27 = .ok (.aload_n 0, 1) := by decide +kernel
theorem dX6_readBack_28 : decode cX6_readBack 28 = .ok (.getfield 16, 3) := by decide +kernel
theorem dX6_readBack_31 : decode cX6_readBack 31 = .ok (.iload_n 1, 1) := by decide +kernel
theorem dX6_readBack_32 : decode cX6_readBack 32 = .ok (.invokevirtual 84, 3) := by decide +kernel
theorem dX6_readBack_35 : decode cX6_readBack 35 = .ok (.checkcast 165, 3) := by decide +kernel
theorem dX6_readBack_38 : decode cX6_readBack 38 = .ok (.astore_n 3, 1) := by decide +kernel
theorem dX6_readBack_39 : decode cX6_readBack 39 = .ok (.aload_n 0, 1) := by decide +kernel
theorem dX6_readBack_40 : decode cX6_readBack 40 = .ok (.aload_n 3, 1) := by decide +kernel
theorem dX6_readBack_41 : decode cX6_readBack 41 = .ok (.invokevirtual 353, 3) := by decide +kernel
theorem dX6_readBack_44 : decode cX6_readBack 44 = .ok (.istore 4, 2) := by decide +kernel
theorem dX6_readBack_46 : decode cX6_readBack 46 = .ok (.iload_n 2, 1) := by decide +kernel
theorem dX6_readBack_47 : decode cX6_readBack 47 = .ok (.lookupswitch 39 #[(0, 25), (1, 28)], 25) := by decide +kernel
theorem dX6_readBack_72 : decode cX6_readBack 72 = .ok (.iload 4, 2) := by decide +kernel
theorem dX6_readBack_74 : decode cX6_readBack 74 = .ok (.ireturn, 1) := by decide +kernel
theorem dX6_readBack_75 : decode cX6_readBack 75 = .ok (.aload_n 0, 1) := by decide +kernel
theorem dX6_readBack_76 : decode cX6_readBack 76 = .ok (.iload 4, 2) := by decide +kernel
theorem dX6_readBack_78 : decode cX6_readBack 78 = .ok (.aload_n 3, 1) := by decide +kernel
theorem dX6_readBack_79 : decode cX6_readBack 79 = .ok (.getfield 270, 3) := by decide +kernel
theorem dX6_readBack_82 : decode cX6_readBack 82 = .ok (.invokevirtual 357, 3) := by decide +kernel
theorem dX6_readBack_85 : decode cX6_readBack 85 = .ok (.ireturn, 1) := by decide +kernel
theorem dX6_readBack_86 : decode cX6_readBack 86 = .ok (.iload 4, 2) := by decide +kernel
theorem dX6_readBack_88 : decode cX6_readBack 88 = .ok (.ifCond .ne 14, 3) := by decide +kernel
theorem dX6_readBack_91 : decode cX6_readBack 91 = .ok (.aload_n 0, 1) := by decide +kernel
theorem dX6_readBack_92 : decode cX6_readBack 92 = .ok (.aload_n 3, 1) := by decide +kernel
theorem dX6_readBack_93 : decode cX6_readBack 93 = .ok (.getfield 270, 3) := by decide +kernel
theorem dX6_readBack_96 : decode cX6_readBack 96 = .ok (.invokevirtual 360, 3) := by decide +kernel
theorem dX6_readBack_99 : decode cX6_readBack 99 = .ok (.goto 4, 3) := by decide +kernel
theorem dX6_readBack_102 : decode cX6_readBack 102 = .ok (.iconst 0, 1) := by decide +kernel
theorem dX6_readBack_103 : decode cX6_readBack 103 = .ok (.ireturn, 1) := by decide +kernel
theorem dX6_signAll_0 : decode cX6_signAll 0 = .ok (.aload_n 0, 1) := by decide +kernel
theorem dX6_signAll_1 : decode cX6_signAll 1 = .ok (.invokevirtual 350, 3) := by decide +kernel
theorem dX6_signAll_4 : decode cX6_signAll 4 = .ok (.iconst 0, 1) := by decide +kernel
theorem dX6_signAll_5 : decode cX6_signAll 5 = .ok (.istore_n 1, 1) := by decide +kernel
theorem dX6_signAll_6 : decode cX6_signAll 6 = .ok (.iconst 0, 1) := by decide +kernel
theorem dX6_signAll_7 : decode cX6_signAll 7 = .ok (.istore_n 2, 1) := by decide +kernel
theorem dX6_signAll_8 : decode cX6_signAll 8 = .ok (.iload_n 2, 1) := by decide +kernel
theorem dX6_signAll_9 : decode cX6_signAll 9 = .ok (.aload_n 0, 1) := by decide +kernel
theorem dX6_signAll_10 : decode cX6_signAll 10 = .ok (.getfield 16, 3) := by decide +kernel
theorem dX6_signAll_13 : decode cX6_signAll 13 = .ok (.invokevirtual 54, 3) := by decide +kernel
theorem dX6_signAll_16 : decode cX6_signAll 16 = .ok (.if_icmp .ge 80, 3) := by decide +kernel
theorem dX6_signAll_19 : decode cX6_signAll 19 = .ok (.aload_n 0, 1) := by decide +kernel
theorem dX6_signAll_20 : decode cX6_signAll 20 = .ok (.getfield 16, 3) := by decide +kernel
theorem dX6_signAll_23 : decode cX6_signAll 23 = .ok (.iload_n 2, 1) := by decide +kernel
theorem dX6_signAll_24 : decode cX6_signAll 24 = .ok (.invokevirtual 84, 3) := by decide +kernel
theorem dX6_signAll_27 : decode cX6_signAll 27 = .ok (.checkcast 165, 3) := by decide +kernel
theorem dX6_signAll_30 : decode cX6_signAll 30 = .ok (.astore_n 3, 1) := by decide +kernel
theorem dX6_signAll_31 : decode cX6_signAll 31 = .ok (.aload_n 3, 1) := by decide +kernel
theorem dX6_signAll_32 : decode cX6_signAll 32 = .ok (.iload_n 1, 1) := by decide +kernel
theorem dX6_signAll_33 : decode cX6_signAll 33 = .ok (.putfield 326, 3) := by decide +kernel
theorem dX6_signAll_36 : decode cX6_signAll 36 = .ok (.aload_n 0, 1) := by decide +kernel
theorem dX6_signAll_37 : decode cX6_signAll 37 = .ok (.iload_n 2, 1) := by decide +kernel
theorem dX6_signAll_38 : decode cX6_signAll 38 = .ok (.invokevirtual 311, 3) := by decide +kernel
theorem dX6_signAll_41 : decode cX6_signAll 41 = .ok (.ifCond .eq 29, 3) := by decide +kernel
theorem dX6_signAll_44 : decode cX6_signAll 44 = .ok (.iload_n 1, 1) := by decide +kernel
theorem dX6_signAll_45 : decode cX6_signAll 45 = .ok (.aload_n 0, 1) := by decide +kernel
theorem dX6_signAll_46 : decode cX6_signAll 46 = .ok (.getfield 16, 3) := by decide +kernel
theorem dX6_signAll_49 : decode cX6_signAll 49 = .ok (.iload_n 2, 1) := by decide +kernel
theorem dX6_signAll_50 : decode cX6_signAll 50 = .ok (.iconst 1, 1) := by decide +kernel
theorem dX6_signAll_51 : decode cX6_signAll 51 = .ok (.isub, 1) := by decide +kernel
theorem dX6_signAll_52 : decode cX6_signAll 52 = .ok (.invokevirtual 84, 3) := by decide +kernel
theorem dX6_signAll_55 : decode cX6_signAll 55 = .ok (.checkcast 165, 3) := by decide +kernel
theorem dX6_signAll_58 : decode cX6_signAll 58 = .ok (.getfield 270, 3) := by decide +kernel
theorem dX6_signAll_61 : decode cX6_signAll 61 = .ok (.aload_n 3, 1) := by decide +kernel
theorem dX6_signAll_62 : decode cX6_signAll 62 = .ok (.getfield 270, 3) := by decide +kernel
theorem dX6_signAll_65 : decode cX6_signAll 65 = .ok (.invokestatic 363, 3) := by decide +kernel
theorem dX6_signAll_68 : decode cX6_signAll 68 = .ok (.iadd, 1) := by decide +kernel
theorem dX6_signAll_69 : decode cX6_signAll 69 = .ok (.istore_n 1, 1) := by decide +kernel
theorem dX6_signAll_70 : decode cX6_signAll 70 = .ok (.aload_n 3, 1) := by decide +kernel
theorem dX6_signAll_71 : decode cX6_signAll 71 = .ok (.iload_n 1, 1) := by decide +kernel
theorem dX6_signAll_72 : decode cX6_signAll 72 = .ok (.putfield 329, 3) := by decide +kernel
theorem dX6_signAll_75 : decode cX6_signAll 75 = .ok (.iload_n 1, 1) := by decide +kernel
theorem dX6_signAll_76 : decode cX6_signAll 76 = .ok (.aload_n 3, 1) := by decide +kernel
theorem dX6_signAll_77 : decode cX6_signAll 77 = .ok (.getfield 270, 3) := by decide +kernel
theorem dX6_signAll_80 : decode cX6_signAll 80 = .ok (.invokestatic 367, 3) := by decide +kernel
theorem dX6_signAll_83 : decode cX6_signAll 83 = .ok (.iadd, 1) := by decide +kernel
theorem dX6_signAll_84 : decode cX6_signAll 84 = .ok (.istore_n 1, 1) := by decide +kernel
theorem dX6_signAll_85 : decode cX6_signAll 85 = .ok (.aload_n 3, 1) := by decide +kernel
theorem dX6_signAll_86 : decode cX6_signAll 86 = .ok (.iload_n 1, 1) := by decide +kernel
theorem dX6_signAll_87 : decode cX6_signAll 87 = .ok (.putfield 332, 3) := by decide +kernel
theorem dX6_signAll_90 : decode cX6_signAll 90 = .ok (.iinc 2 1, 3) := by decide +kernel
theorem dX6_signAll_93 : decode cX6_signAll 93 = .ok (.goto (-85), 3) := by decide +kernel
theorem dX6_signAll_96 : decode cX6_signAll 96 = .ok (.return_, 1) := by decide +kernel
theorem dX6_ticksOfPassing_0 : decode cX6_ticksOfPassing 0 = .ok (.aload_n 0, 1) := by decide +kernel
theorem dX6_ticksOfPassing_1 : decode cX6_ticksOfPassing 1 = .ok (.getfield 102, 3) := by decide +kernel
theorem dX6_ticksOfPassing_4 : decode cX6_ticksOfPassing 4 = .ok (.aload_n 1, 1) := by decide +kernel
theorem dX6_ticksOfPassing_5 : decode cX6_ticksOfPassing 5 = .ok (.getfield 102, 3) := by decide +kernel
theorem dX6_ticksOfPassing_8 : decode cX6_ticksOfPassing 8 = .ok (.if_icmp .ne 27, 3) := by decide +kernel
theorem dX6_ticksOfPassing_11 : decode cX6_ticksOfPassing 11 = .ok (.aload_n 0, 1) := by decide +kernel
theorem dX6_ticksOfPassing_12 : decode cX6_ticksOfPassing 12 = .ok (.getfield 109, 3) := by decide +kernel
theorem dX6_ticksOfPassing_15 : decode cX6_ticksOfPassing 15 = .ok (.aload_n 1, 1) := by decide +kernel
theorem dX6_ticksOfPassing_16 : decode cX6_ticksOfPassing 16 = .ok (.getfield 106, 3) := by decide +kernel
theorem dX6_ticksOfPassing_19 : decode cX6_ticksOfPassing 19 = .ok (.if_icmp .ne 16, 3) := by decide +kernel
theorem dX6_ticksOfPassing_22 : decode cX6_ticksOfPassing 22 = .ok (.aload_n 0, 1) := by decide +kernel
theorem dX6_ticksOfPassing_23 : decode cX6_ticksOfPassing 23 = .ok (.getfield 115, 3) := by decide +kernel
theorem dX6_ticksOfPassing_26 : decode cX6_ticksOfPassing 26 = .ok (.aload_n 1, 1) := by decide +kernel
theorem dX6_ticksOfPassing_27 : decode cX6_ticksOfPassing 27 = .ok (.getfield 112, 3) := by decide +kernel
theorem dX6_ticksOfPassing_30 : decode cX6_ticksOfPassing 30 = .ok (.if_icmp .ne 5, 3) := by decide +kernel
theorem dX6_ticksOfPassing_33 : decode cX6_ticksOfPassing 33 = .ok (.iconst 0, 1) := by decide +kernel
theorem dX6_ticksOfPassing_34 : decode cX6_ticksOfPassing 34 = .ok (.ireturn, 1) := by decide +kernel
theorem dX6_ticksOfPassing_35 : decode cX6_ticksOfPassing 35 = .ok (.iconst 1, 1) := by decide +kernel
theorem dX6_ticksOfPassing_36 : decode cX6_ticksOfPassing 36 = .ok (.aload_n 0, 1) := by decide +kernel
theorem dX6_ticksOfPassing_37 : decode cX6_ticksOfPassing 37 = .ok (.getfield 109, 3) := by decide +kernel
theorem dX6_ticksOfPassing_40 : decode cX6_ticksOfPassing 40 = .ok (.aload_n 1, 1) := by decide +kernel
theorem dX6_ticksOfPassing_41 : decode cX6_ticksOfPassing 41 = .ok (.getfield 106, 3) := by decide +kernel
theorem dX6_ticksOfPassing_44 : decode cX6_ticksOfPassing 44 = .ok (.invokestatic 320, 3) := by decide +kernel
theorem dX6_ticksOfPassing_47 : decode cX6_ticksOfPassing 47 = .ok (.invokestatic 250, 3) := by decide +kernel
theorem dX6_ticksOfPassing_50 : decode cX6_ticksOfPassing 50 = .ok (.ireturn, 1) := by decide +kernel
theorem dX6_ticksOfItem_0 : decode cX6_ticksOfItem 0 = .ok (.aload_n 0, 1) := by decide +kernel
theorem dX6_ticksOfItem_1 : decode cX6_ticksOfItem 1 = .ok (.invokevirtual 317, 3) := by decide +kernel
theorem dX6_ticksOfItem_4 : decode cX6_ticksOfItem 4 = .ok (.ifCond .ne 16, 3) := by decide +kernel
theorem dX6_ticksOfItem_7 : decode cX6_ticksOfItem 7 = .ok (.aload_n 0, 1) := by decide +kernel
theorem dX6_ticksOfItem_8 : decode cX6_ticksOfItem 8 = .ok (.getfield 112, 3) := by decide +kernel
theorem dX6_ticksOfItem_11 : decode cX6_ticksOfItem 11 = .ok (.aload_n 0, 1) := by decide +kernel
theorem dX6_ticksOfItem_12 : decode cX6_ticksOfItem 12 = .ok (.getfield 115, 3) := by decide +kernel
theorem dX6_ticksOfItem_15 : decode cX6_ticksOfItem 15 = .ok (.if_icmp .ne 5, 3) := by decide +kernel
theorem dX6_ticksOfItem_18 : decode cX6_ticksOfItem 18 = .ok (.iconst 3, 1) := by decide +kernel
theorem dX6_ticksOfItem_19 : decode cX6_ticksOfItem 19 = .ok (.ireturn, 1) := by decide +kernel
theorem dX6_ticksOfItem_20 : decode cX6_ticksOfItem 20 = .ok (.iconst 2, 1) := by decide +kernel
theorem dX6_ticksOfItem_21 : decode cX6_ticksOfItem 21 = .ok (.iconst 1, 1) := by decide +kernel
theorem dX6_ticksOfItem_22 : decode cX6_ticksOfItem 22 = .ok (.aload_n 0, 1) := by decide +kernel
theorem dX6_ticksOfItem_23 : decode cX6_ticksOfItem 23 = .ok (.getfield 106, 3) := by decide +kernel
theorem dX6_ticksOfItem_26 : decode cX6_ticksOfItem 26 = .ok (.aload_n 0, 1) := by decide +kernel
theorem dX6_ticksOfItem_27 : decode cX6_ticksOfItem 27 = .ok (.getfield 109, 3) := by decide +kernel
theorem dX6_ticksOfItem_30 : decode cX6_ticksOfItem 30 = .ok (.invokestatic 320, 3) := by decide +kernel
theorem dX6_ticksOfItem_33 : decode cX6_ticksOfItem 33 = .ok (.invokestatic 250, 3) := by decide +kernel
theorem dX6_ticksOfItem_36 : decode cX6_ticksOfItem 36 = .ok (.iadd, 1) := by decide +kernel
theorem dX6_ticksOfItem_37 : decode cX6_ticksOfItem 37 = .ok (.iconst 2, 1) := by decide +kernel
theorem dX6_ticksOfItem_38 : decode cX6_ticksOfItem 38 = .ok (.iadd, 1) := by decide +kernel
theorem dX6_ticksOfItem_39 : decode cX6_ticksOfItem 39 = .ok (.ireturn, 1) := by decide +kernel
theorem dX6_itemAtTick_0 : decode cX6_itemAtTick 0 = .ok (.iconst 0, 1) := by decide +kernel
theorem dX6_itemAtTick_1 : decode cX6_itemAtTick 1 = .ok (.istore_n 2, 1) := by decide +kernel
theorem dX6_itemAtTick_2 : decode cX6_itemAtTick 2 = .ok (.iload_n 2, 1) := by decide +kernel
theorem dX6_itemAtTick_3 : decode cX6_itemAtTick 3 = .ok (.aload_n 0, 1) := by decide +kernel
theorem dX6_itemAtTick_4 : decode cX6_itemAtTick 4 = .ok (.getfield 16, 3) := by decide +kernel
theorem dX6_itemAtTick_7 : decode cX6_itemAtTick 7 = .ok (.invokevirtual 54, 3) := by decide +kernel
theorem dX6_itemAtTick_10 : decode cX6_itemAtTick 10 = .ok (.if_icmp .ge 29, 3) := by decide +kernel
theorem dX6_itemAtTick_13 : decode cX6_itemAtTick 13 = .ok (.iload_n 1, 1) := by decide +kernel
theorem dX6_itemAtTick_14 : decode cX6_itemAtTick 14 = .ok (.aload_n 0, 1) := by decide +kernel
theorem dX6_itemAtTick_15 : decode cX6_itemAtTick 15 = .ok (.getfield 16, 3) := by decide +kernel
theorem dX6_itemAtTick_18 : decode cX6_itemAtTick 18 = .ok (.iload_n 2, 1) := by decide +kernel
theorem dX6_itemAtTick_19 : decode cX6_itemAtTick 19 = .ok (.invokevirtual 84, 3) := by decide +kernel
theorem dX6_itemAtTick_22 : decode cX6_itemAtTick 22 = .ok (.checkcast 165, 3) := by decide +kernel
theorem dX6_itemAtTick_25 : decode cX6_itemAtTick 25 = .ok (.getfield 332, 3) := by decide +kernel
theorem dX6_itemAtTick_28 : decode cX6_itemAtTick 28 = .ok (.if_icmp .ge 5, 3) := by decide +kernel
theorem dX6_itemAtTick_31 : decode cX6_itemAtTick 31 = .ok (.iload_n 2, 1) := by decide +kernel
theorem dX6_itemAtTick_32 : decode cX6_itemAtTick 32 = .ok (.ireturn, 1) := by decide +kernel
theorem dX6_itemAtTick_33 : decode cX6_itemAtTick 33 = .ok (.iinc 2 1, 3) := by decide +kernel
theorem dX6_itemAtTick_36 : decode cX6_itemAtTick 36 = .ok (.goto (-34), 3) := by decide +kernel
theorem dX6_itemAtTick_39 : decode cX6_itemAtTick 39 = .ok (.iconst (-1), 1) := by decide +kernel
theorem dX6_itemAtTick_40 : decode cX6_itemAtTick 40 = .ok (.ireturn, 1) := by decide +kernel
theorem dX6_placeInPassing_0 : decode cX6_placeInPassing 0 = .ok (.aload_n 0, 1) := by decide +kernel
theorem dX6_placeInPassing_1 : decode cX6_placeInPassing 1 = .ok (.getfield 16, 3) := by decide +kernel
theorem dX6_placeInPassing_4 : decode cX6_placeInPassing 4 = .ok (.iload_n 1, 1) := by decide +kernel
theorem dX6_placeInPassing_5 : decode cX6_placeInPassing 5 = .ok (.invokevirtual 84, 3) := by decide +kernel
theorem dX6_placeInPassing_8 : decode cX6_placeInPassing 8 = .ok (.checkcast 165, 3) := by decide +kernel
theorem dX6_placeInPassing_11 : decode cX6_placeInPassing 11 = .ok (.getfield 270, 3) := by decide +kernel
theorem dX6_placeInPassing_14 : decode cX6_placeInPassing 14 = .ok (.astore_n 3, 1) := by decide +kernel
theorem dX6_placeInPassing_15 : decode cX6_placeInPassing 15 = .ok (.aload_n 0, 1) := by decide +kernel
theorem dX6_placeInPassing_16 : decode cX6_placeInPassing 16 = .ok (.iload_n 1, 1) := by decide +kernel
theorem dX6_placeInPassing_17 : decode cX6_placeInPassing 17 = .ok (.invokevirtual 311, 3) := by decide +kernel
theorem dX6_placeInPassing_20 : decode cX6_placeInPassing 20 = .ok (.ifCond .eq 25, 3) := by decide +kernel
theorem dX6_placeInPassing_23 : decode cX6_placeInPassing 23 = .ok (.aload_n 0, 1) := by decide +kernel
theorem dX6_placeInPassing_24 : decode cX6_placeInPassing 24 = .ok (.getfield 16, 3) := by decide +kernel
theorem dX6_placeInPassing_27 : decode cX6_placeInPassing 27 = .ok (.iload_n 1, 1) := by decide +kernel
theorem dX6_placeInPassing_28 : decode cX6_placeInPassing 28 = .ok (.iconst 1, 1) := by decide +kernel
theorem dX6_placeInPassing_29 : decode cX6_placeInPassing 29 = .ok (.isub, 1) := by decide +kernel
theorem dX6_placeInPassing_30 : decode cX6_placeInPassing 30 = .ok (.invokevirtual 84, 3) := by decide +kernel
theorem dX6_placeInPassing_33 : decode cX6_placeInPassing 33 = .ok (.checkcast 165, 3) := by decide +kernel
theorem dX6_placeInPassing_36 : decode cX6_placeInPassing 36 = .ok (.getfield 270, 3) := by decide +kernel
theorem dX6_placeInPassing_39 : decode cX6_placeInPassing 39 = .ok (.getfield 109, 3) := by decide +kernel
theorem dX6_placeInPassing_42 : decode cX6_placeInPassing 42 = .ok (.goto 7, 3) := by decide +kernel
theorem dX6_placeInPassing_45 : decode cX6_placeInPassing 45 = .ok (.aload_n 3, 1) := by decide +kernel
theorem dX6_placeInPassing_46 : decode cX6_placeInPassing 46 = .ok (.getfield 106, 3) := by decide +kernel
theorem dX6_placeInPassing_49 : decode cX6_placeInPassing 49 = .ok (.istore 4, 2) := by decide +kernel
theorem dX6_placeInPassing_51 : decode cX6_placeInPassing 51 = .ok (.iload 4, 2) := by decide +kernel
theorem dX6_placeInPassing_53 : decode cX6_placeInPassing 53 = .ok (.aload_n 3, 1) := by decide +kernel
theorem dX6_placeInPassing_54 : decode cX6_placeInPassing 54 = .ok (.getfield 106, 3) := by decide +kernel
theorem dX6_placeInPassing_57 : decode cX6_placeInPassing 57 = .ok (.iload_n 2, 1) := by decide +kernel
theorem dX6_placeInPassing_58 : decode cX6_placeInPassing 58 = .ok (.aload_n 0, 1) := by decide +kernel
theorem dX6_placeInPassing_59 : decode cX6_placeInPassing 59 = .ok (.getfield 16, 3) := by decide +kernel
theorem dX6_placeInPassing_62 : decode cX6_placeInPassing 62 = .ok (.iload_n 1, 1) := by decide +kernel
theorem dX6_placeInPassing_63 : decode cX6_placeInPassing 63 = .ok (.invokevirtual 84, 3) := by decide +kernel
theorem dX6_placeInPassing_66 : decode cX6_placeInPassing 66 = .ok (.checkcast 165, 3) := by decide +kernel
theorem dX6_placeInPassing_69 : decode cX6_placeInPassing 69 = .ok (.getfield 326, 3) := by decide +kernel
theorem dX6_placeInPassing_72 : decode cX6_placeInPassing 72 = .ok (.isub, 1) := by decide +kernel
theorem dX6_placeInPassing_73 : decode cX6_placeInPassing 73 = .ok (.iconst 1, 1) := by decide +kernel
theorem dX6_placeInPassing_74 : decode cX6_placeInPassing 74 = .ok (.iadd, 1) := by decide +kernel
theorem dX6_placeInPassing_75 : decode cX6_placeInPassing 75 = .ok (.invokestatic 370, 3) := by decide +kernel
theorem dX6_placeInPassing_78 : decode cX6_placeInPassing 78 = .ok (.ireturn, 1) := by decide +kernel
theorem dX6_placeInItem_0 : decode cX6_placeInItem 0 = .ok (.aload_n 0, 1) := by decide +kernel
theorem dX6_placeInItem_1 : decode cX6_placeInItem 1 = .ok (.getfield 270, 3) := by decide +kernel
theorem dX6_placeInItem_4 : decode cX6_placeInItem 4 = .ok (.getfield 106, 3) := by decide +kernel
theorem dX6_placeInItem_7 : decode cX6_placeInItem 7 = .ok (.aload_n 0, 1) := by decide +kernel
theorem dX6_placeInItem_8 : decode cX6_placeInItem 8 = .ok (.getfield 270, 3) := by decide +kernel
theorem dX6_placeInItem_11 : decode cX6_placeInItem 11 = .ok (.getfield 109, 3) := by decide +kernel
theorem dX6_placeInItem_14 : decode cX6_placeInItem 14 = .ok (.aload_n 0, 1) := by decide +kernel
theorem dX6_placeInItem_15 : decode cX6_placeInItem 15 = .ok (.iload_n 1, 1) := by decide +kernel
theorem dX6_placeInItem_16 : decode cX6_placeInItem 16 = .ok (.invokestatic 374, 3) := by decide +kernel
theorem dX6_placeInItem_19 : decode cX6_placeInItem 19 = .ok (.invokestatic 370, 3) := by decide +kernel
theorem dX6_placeInItem_22 : decode cX6_placeInItem 22 = .ok (.ireturn, 1) := by decide +kernel
theorem dX6_turnInItem_0 : decode cX6_turnInItem 0 = .ok (.aload_n 0, 1) := by decide +kernel
theorem dX6_turnInItem_1 : decode cX6_turnInItem 1 = .ok (.iload_n 1, 1) := by decide +kernel
theorem dX6_turnInItem_2 : decode cX6_turnInItem 2 = .ok (.invokestatic 374, 3) := by decide +kernel
theorem dX6_turnInItem_5 : decode cX6_turnInItem 5 = .ok (.ifCond .le 13, 3) := by decide +kernel
theorem dX6_turnInItem_8 : decode cX6_turnInItem 8 = .ok (.aload_n 0, 1) := by decide +kernel
theorem dX6_turnInItem_9 : decode cX6_turnInItem 9 = .ok (.getfield 270, 3) := by decide +kernel
theorem dX6_turnInItem_12 : decode cX6_turnInItem 12 = .ok (.getfield 115, 3) := by decide +kernel
theorem dX6_turnInItem_15 : decode cX6_turnInItem 15 = .ok (.goto 10, 3) := by decide +kernel
theorem dX6_turnInItem_18 : decode cX6_turnInItem 18 = .ok (.aload_n 0, 1) := by decide +kernel
theorem dX6_turnInItem_19 : decode cX6_turnInItem 19 = .ok (.getfield 270, 3) := by decide +kernel
theorem dX6_turnInItem_22 : decode cX6_turnInItem 22 = .ok (.getfield 112, 3) := by decide +kernel
theorem dX6_turnInItem_25 : decode cX6_turnInItem 25 = .ok (.ireturn, 1) := by decide +kernel
theorem dX6_stepsDone_0 : decode cX6_stepsDone 0 = .ok (.iconst 0, 1) := by decide +kernel
theorem dX6_stepsDone_1 : decode cX6_stepsDone 1 = .ok (.iload_n 1, 1) := by decide +kernel
theorem dX6_stepsDone_2 : decode cX6_stepsDone 2 = .ok (.aload_n 0, 1) := by decide +kernel
theorem dX6_stepsDone_3 : decode cX6_stepsDone 3 = .ok (.getfield 329, 3) := by decide +kernel
theorem dX6_stepsDone_6 : decode cX6_stepsDone 6 = .ok (.isub, 1) := by decide +kernel
theorem dX6_stepsDone_7 : decode cX6_stepsDone 7 = .ok (.iconst 2, 1) := by decide +kernel
theorem dX6_stepsDone_8 : decode cX6_stepsDone 8 = .ok (.isub, 1) := by decide +kernel
theorem dX6_stepsDone_9 : decode cX6_stepsDone 9 = .ok (.iconst 1, 1) := by decide +kernel
theorem dX6_stepsDone_10 : decode cX6_stepsDone 10 = .ok (.iadd, 1) := by decide +kernel
theorem dX6_stepsDone_11 : decode cX6_stepsDone 11 = .ok (.invokestatic 250, 3) := by decide +kernel
theorem dX6_stepsDone_14 : decode cX6_stepsDone 14 = .ok (.ireturn, 1) := by decide +kernel
theorem dX6_placeOnWay_0 : decode cX6_placeOnWay 0 = .ok (.iload_n 1, 1) := by decide +kernel
theorem dX6_placeOnWay_1 : decode cX6_placeOnWay 1 = .ok (.invokestatic 129, 3) := by decide +kernel
theorem dX6_placeOnWay_4 : decode cX6_placeOnWay 4 = .ok (.iload_n 0, 1) := by decide +kernel
theorem dX6_placeOnWay_5 : decode cX6_placeOnWay 5 = .ok (.invokestatic 129, 3) := by decide +kernel
theorem dX6_placeOnWay_8 : decode cX6_placeOnWay 8 = .ok (.isub, 1) := by decide +kernel
theorem dX6_placeOnWay_9 : decode cX6_placeOnWay 9 = .ok (.invokestatic 314, 3) := by decide +kernel
theorem dX6_placeOnWay_12 : decode cX6_placeOnWay 12 = .ok (.istore_n 3, 1) := by decide +kernel
theorem dX6_placeOnWay_13 : decode cX6_placeOnWay 13 = .ok (.iload_n 1, 1) := by decide +kernel
theorem dX6_placeOnWay_14 : decode cX6_placeOnWay 14 = .ok (.invokestatic 121, 3) := by decide +kernel
theorem dX6_placeOnWay_17 : decode cX6_placeOnWay 17 = .ok (.iload_n 0, 1) := by decide +kernel
theorem dX6_placeOnWay_18 : decode cX6_placeOnWay 18 = .ok (.invokestatic 121, 3) := by decide +kernel
theorem dX6_placeOnWay_21 : decode cX6_placeOnWay 21 = .ok (.isub, 1) := by decide +kernel
theorem dX6_placeOnWay_22 : decode cX6_placeOnWay 22 = .ok (.invokestatic 314, 3) := by decide +kernel
theorem dX6_placeOnWay_25 : decode cX6_placeOnWay 25 = .ok (.istore 4, 2) := by decide +kernel
theorem dX6_placeOnWay_27 : decode cX6_placeOnWay 27 = .ok (.iload_n 2, 1) := by decide +kernel
theorem dX6_placeOnWay_28 : decode cX6_placeOnWay 28 = .ok (.iload_n 3, 1) := by decide +kernel
theorem dX6_placeOnWay_29 : decode cX6_placeOnWay 29 = .ok (.invokestatic 377, 3) := by decide +kernel
theorem dX6_placeOnWay_32 : decode cX6_placeOnWay 32 = .ok (.istore 5, 2) := by decide +kernel
theorem dX6_placeOnWay_34 : decode cX6_placeOnWay 34 = .ok (.iload_n 2, 1) := by decide +kernel
theorem dX6_placeOnWay_35 : decode cX6_placeOnWay 35 = .ok (.iload 5, 2) := by decide +kernel
theorem dX6_placeOnWay_37 : decode cX6_placeOnWay 37 = .ok (.isub, 1) := by decide +kernel
theorem dX6_placeOnWay_38 : decode cX6_placeOnWay 38 = .ok (.iload 4, 2) := by decide +kernel
theorem dX6_placeOnWay_40 : decode cX6_placeOnWay 40 = .ok (.invokestatic 377, 3) := by decide +kernel
theorem dX6_placeOnWay_43 : decode cX6_placeOnWay 43 = .ok (.istore 6, 2) := by decide +kernel
theorem dX6_placeOnWay_45 : decode cX6_placeOnWay 45 = .ok (.iload_n 0, 1) := by decide +kernel
theorem dX6_placeOnWay_46 : decode cX6_placeOnWay 46 = .ok (.iload 5, 2) := by decide +kernel
theorem dX6_placeOnWay_48 : decode cX6_placeOnWay 48 = .ok (.iload_n 0, 1) := by decide +kernel
theorem dX6_placeOnWay_49 : decode cX6_placeOnWay 49 = .ok (.invokestatic 129, 3) := by decide +kernel
theorem dX6_placeOnWay_52 : decode cX6_placeOnWay 52 = .ok (.iload_n 1, 1) := by decide +kernel
theorem dX6_placeOnWay_53 : decode cX6_placeOnWay 53 = .ok (.invokestatic 129, 3) := by decide +kernel
theorem dX6_placeOnWay_56 : decode cX6_placeOnWay 56 = .ok (.invokestatic 125, 3) := by decide +kernel
theorem dX6_placeOnWay_59 : decode cX6_placeOnWay 59 = .ok (.imul, 1) := by decide +kernel
theorem dX6_placeOnWay_60 : decode cX6_placeOnWay 60 = .ok (.iadd, 1) := by decide +kernel
theorem dX6_placeOnWay_61 : decode cX6_placeOnWay 61 = .ok (.iconst 3, 1) := by decide +kernel
theorem dX6_placeOnWay_62 : decode cX6_placeOnWay 62 = .ok (.iload 6, 2) := by decide +kernel
theorem dX6_placeOnWay_64 : decode cX6_placeOnWay 64 = .ok (.imul, 1) := by decide +kernel
theorem dX6_placeOnWay_65 : decode cX6_placeOnWay 65 = .ok (.iload_n 0, 1) := by decide +kernel
theorem dX6_placeOnWay_66 : decode cX6_placeOnWay 66 = .ok (.invokestatic 121, 3) := by decide +kernel
theorem dX6_placeOnWay_69 : decode cX6_placeOnWay 69 = .ok (.iload_n 1, 1) := by decide +kernel
theorem dX6_placeOnWay_70 : decode cX6_placeOnWay 70 = .ok (.invokestatic 121, 3) := by decide +kernel
theorem dX6_placeOnWay_73 : decode cX6_placeOnWay 73 = .ok (.invokestatic 125, 3) := by decide +kernel
theorem dX6_placeOnWay_76 : decode cX6_placeOnWay 76 = .ok (.imul, 1) := by decide +kernel
theorem dX6_placeOnWay_77 : decode cX6_placeOnWay 77 = .ok (.iadd, 1) := by decide +kernel
theorem dX6_placeOnWay_78 : decode cX6_placeOnWay 78 = .ok (.ireturn, 1) := by decide +kernel
theorem dX6_kindReadBack_0 : decode cX6_kindReadBack 0 = .ok (.aload_n 1, 1) := by decide +kernel
theorem dX6_kindReadBack_1 : decode cX6_kindReadBack 1 = .ok (.invokevirtual 285, 3) := by decide +kernel
theorem dX6_kindReadBack_4 : decode cX6_kindReadBack 4 = .ok (.ifCond .ne 29, 3) := by decide +kernel
theorem dX6_kindReadBack_7 : decode cX6_kindReadBack 7 = .ok (.aload_n 1, 1) := by decide +kernel
theorem dX6_kindReadBack_8 : decode cX6_kindReadBack 8 = .ok (.getfield 270, 3) := by decide +kernel
theorem dX6_kindReadBack_11 : decode cX6_kindReadBack 11 = .ok (.invokestatic 380, 3) := by decide +kernel
theorem dX6_kindReadBack_14 : decode cX6_kindReadBack 14 = .ok (.iconst (-1), 1) := by decide +kernel
theorem dX6_kindReadBack_15 : decode cX6_kindReadBack 15 = .ok (.if_icmp .eq 5, 3) := by decide +kernel
theorem dX6_kindReadBack_18 : decode cX6_kindReadBack 18 = .ok (.iconst 2, 1) := by decide +kernel
theorem dX6_kindReadBack_19 : decode cX6_kindReadBack 19 = .ok (.ireturn, 1) := by decide +kernel
theorem dX6_kindReadBack_20 : decode cX6_kindReadBack 20 = .ok (.aload_n 1, 1) := by decide +kernel
theorem dX6_kindReadBack_21 : decode cX6_kindReadBack 21 = .ok (.getfield 270, 3) := by decide +kernel
theorem dX6_kindReadBack_24 : decode cX6_kindReadBack 24 = .ok (.invokestatic 383, 3) := by decide +kernel
theorem dX6_kindReadBack_27 : decode cX6_kindReadBack 27 = .ok (.iconst (-1), 1) := by decide +kernel
theorem dX6_kindReadBack_28 : decode cX6_kindReadBack 28 = .ok (.if_icmp .eq 5, 3) := by decide +kernel
theorem dX6_kindReadBack_31 : decode cX6_kindReadBack 31 = .ok (.iconst 5, 1) := by decide +kernel
theorem dX6_kindReadBack_32 : decode cX6_kindReadBack 32 = .ok (.ireturn, 1) := by decide +kernel
theorem dX6_kindReadBack_33 : decode cX6_kindReadBack 33 = .ok (.aload_n 0, 1) := by decide +kernel
theorem dX6_kindReadBack_34 : decode cX6_kindReadBack 34 = .ok (.aload_n 1, 1) := by decide +kernel
theorem dX6_kindReadBack_35 : decode cX6_kindReadBack 35 = .ok (.getfield 270, 3) := by decide +kernel
theorem dX6_kindReadBack_38 : decode cX6_kindReadBack 38 = .ok (.invokevirtual 68, 3) := by decide +kernel
theorem dX6_kindReadBack_41 : decode cX6_kindReadBack 41 = .ok (.iconst (-1), 1) := by decide +kernel
theorem dX6_kindReadBack_42 : decode cX6_kindReadBack 42 = .ok (.if_icmp .eq 7, 3) := by decide +kernel
theorem dX6_kindReadBack_45 : decode cX6_kindReadBack 45 = .ok (.iconst 0, 1) := by decide +kernel
theorem dX6_kindReadBack_46 : decode cX6_kindReadBack 46 = .ok (.goto 4, 3) := by decide +kernel
theorem dX6_kindReadBack_49 : decode cX6_kindReadBack 49 = .ok (.iconst (-1), 1) := by decide +kernel
theorem dX6_kindReadBack_50 : decode cX6_kindReadBack 50 = .ok (.ireturn, 1) := by decide +kernel
theorem dX6_numberReadBack_0 : decode cX6_numberReadBack 0 = .ok (.iload_n 1, 1) := by decide +kernel
theorem dX6_numberReadBack_1 : decode cX6_numberReadBack 1 = .ok (.lookupswitch 51 #[(0, 35), (2, 41), (5, 46)], 35) := by decide +kernel
theorem dX6_numberReadBack_36 : decode cX6_numberReadBack 36 = .ok (.aload_n 0, 1) := by decide +kernel
theorem dX6_numberReadBack_37 : decode cX6_numberReadBack 37 = .ok (.aload_n 2, 1) := by decide +kernel
theorem dX6_numberReadBack_38 : decode cX6_numberReadBack 38 = .ok (.invokevirtual 68, 3) := by decide +kernel
theorem dX6_numberReadBack_41 : decode cX6_numberReadBack 41 = .ok (.ireturn, 1) := by decide +kernel
theorem dX6_numberReadBack_42 : decode cX6_numberReadBack 42 = .ok (.aload_n 2, 1) := by decide +kernel
theorem dX6_numberReadBack_43 : decode cX6_numberReadBack 43 = .ok (.invokestatic 380, 3) := by decide +kernel
theorem dX6_numberReadBack_46 : decode cX6_numberReadBack 46 = .ok (.ireturn, 1) := by decide +kernel
theorem dX6_numberReadBack_47 : decode cX6_numberReadBack 47 = .ok (.aload_n 2, 1) := by decide +kernel
theorem dX6_numberReadBack_48 : decode cX6_numberReadBack 48 = .ok (.invokestatic 383, 3) := by decide +kernel
theorem dX6_numberReadBack_51 : decode cX6_numberReadBack 51 = .ok (.ireturn, 1) := by decide +kernel
theorem dX6_numberReadBack_52 : decode cX6_numberReadBack 52 = .ok (.iconst (-1), 1) := by decide +kernel
theorem dX6_numberReadBack_53 : decode cX6_numberReadBack 53 = .ok (.ireturn, 1) := by decide +kernel
theorem dX6_pointingReadBack_0 : decode cX6_pointingReadBack 0 = .ok (.aload_n 0, 1) := by decide +kernel
theorem dX6_pointingReadBack_1 : decode cX6_pointingReadBack 1 = .ok (.invokevirtual 386, 3) := by decide +kernel
theorem dX6_pointingReadBack_4 : decode cX6_pointingReadBack 4 = .ok (.ifCond .eq 22, 3) := by decide +kernel
theorem dX6_pointingReadBack_7 : decode cX6_pointingReadBack 7 = .ok (.aload_n 0, 1) := by decide +kernel
theorem dX6_pointingReadBack_8 : decode cX6_pointingReadBack 8 = .ok (.getfield 112, 3) := by decide +kernel
theorem dX6_pointingReadBack_11 : decode cX6_pointingReadBack 11 = .ok (.ifCond .ne 15, 3) := by decide +kernel
theorem dX6_pointingReadBack_14 : decode cX6_pointingReadBack 14 = .ok (.aload_n 0, 1) := by decide +kernel
theorem dX6_pointingReadBack_15 : decode cX6_pointingReadBack 15 = .ok (.getfield 102, 3) := by decide +kernel
theorem dX6_pointingReadBack_18 : decode cX6_pointingReadBack 18 = .ok (.iconst 1, 1) := by decide +kernel
theorem dX6_pointingReadBack_19 : decode cX6_pointingReadBack 19 = .ok (.if_icmp .ne 7, 3) := by decide +kernel
theorem dX6_pointingReadBack_22 : decode cX6_pointingReadBack 22 = .ok (.iconst 1, 1) := by decide +kernel
theorem dX6_pointingReadBack_23 : decode cX6_pointingReadBack 23 = .ok (.goto 4, 3) := by decide +kernel
theorem dX6_pointingReadBack_26 : decode cX6_pointingReadBack 26 = .ok (.iconst 0, 1) := by decide +kernel
theorem dX6_pointingReadBack_27 : decode cX6_pointingReadBack 27 = .ok (.istore_n 1, 1) := by decide +kernel
theorem dX6_pointingReadBack_28 : decode cX6_pointingReadBack 28 = .ok (.iload_n 1, 1) := by decide +kernel
theorem dX6_pointingReadBack_29 : decode cX6_pointingReadBack 29 = .ok (.ifCond .eq 13, 3) := by decide +kernel
theorem dX6_pointingReadBack_32 : decode cX6_pointingReadBack 32 = .ok (.aload_n 0, 1) := by decide +kernel
theorem dX6_pointingReadBack_33 : decode cX6_pointingReadBack 33 = .ok (.getfield 106, 3) := by decide +kernel
theorem dX6_pointingReadBack_36 : decode cX6_pointingReadBack 36 = .ok (.invokestatic 389, 3) := by decide +kernel
theorem dX6_pointingReadBack_39 : decode cX6_pointingReadBack 39 = .ok (.goto 4, 3) := by decide +kernel
theorem dX6_pointingReadBack_42 : decode cX6_pointingReadBack 42 = .ok (.iconst (-1), 1) := by decide +kernel
theorem dX6_pointingReadBack_43 : decode cX6_pointingReadBack 43 = .ok (.ireturn, 1) := by decide +kernel
theorem dX6_letterReadBack_0 : decode cX6_letterReadBack 0 = .ok (.bipush 8, 2) := by decide +kernel
theorem dX6_letterReadBack_2 : decode cX6_letterReadBack 2 = .ok (.aload_n 0, 1) := by decide +kernel
theorem dX6_letterReadBack_3 : decode cX6_letterReadBack 3 = .ok (.getfield 112, 3) := by decide +kernel
theorem dX6_letterReadBack_6 : decode cX6_letterReadBack 6 = .ok (.imul, 1) := by decide +kernel
theorem dX6_letterReadBack_7 : decode cX6_letterReadBack 7 = .ok (.aload_n 0, 1) := by decide +kernel
theorem dX6_letterReadBack_8 : decode cX6_letterReadBack 8 = .ok (.getfield 102, 3) := by decide +kernel
theorem dX6_letterReadBack_11 : decode cX6_letterReadBack 11 = .ok (.iadd, 1) := by decide +kernel
theorem dX6_letterReadBack_12 : decode cX6_letterReadBack 12 = .ok (.istore_n 1, 1) := by decide +kernel
theorem dX6_letterReadBack_13 : decode cX6_letterReadBack 13 = .ok (.aload_n 0, 1) := by decide +kernel
theorem dX6_letterReadBack_14 : decode cX6_letterReadBack 14 = .ok (.invokevirtual 386, 3) := by decide +kernel
theorem dX6_letterReadBack_17 : decode cX6_letterReadBack 17 = .ok (.ifCond .eq 24, 3) := by decide +kernel
theorem dX6_letterReadBack_20 : decode cX6_letterReadBack 20 = .ok (.aload_n 0, 1) := by decide +kernel
theorem dX6_letterReadBack_21 : decode cX6_letterReadBack 21 = .ok (.getfield 106, 3) := by decide +kernel
theorem dX6_letterReadBack_24 : decode cX6_letterReadBack 24 = .ok (.iconst 4, 1) := by decide +kernel
theorem dX6_letterReadBack_25 : decode cX6_letterReadBack 25 = .ok (.if_icmp .ne 16, 3) := by decide +kernel
theorem dX6_letterReadBack_28 : decode cX6_letterReadBack 28 = .ok (.iload_n 1, 1) := by decide +kernel
theorem dX6_letterReadBack_29 : decode cX6_letterReadBack 29 = .ok (.bipush 26, 2) := by decide +kernel
theorem dX6_letterReadBack_31 : decode cX6_letterReadBack 31 = .ok (.invokestatic 38, 3) := by decide +kernel
theorem dX6_letterReadBack_34 : decode cX6_letterReadBack 34 = .ok (.ifCond .eq 7, 3) := by decide +kernel
theorem dX6_letterReadBack_37 : decode cX6_letterReadBack 37 = .ok (.iload_n 1, 1) := by decide +kernel
theorem dX6_letterReadBack_38 : decode cX6_letterReadBack 38 = .ok (.goto 4, 3) := by decide +kernel
theorem dX6_letterReadBack_41 : decode cX6_letterReadBack 41 = .ok (.iconst (-1), 1) := by decide +kernel
theorem dX6_letterReadBack_42 : decode cX6_letterReadBack 42 = .ok (.ireturn, 1) := by decide +kernel
theorem dX6_take_0 : decode cX6_take 0 = .ok (.iload_n 1, 1) := by decide +kernel
theorem dX6_take_1 : decode cX6_take 1 = .ok (.invokestatic 392, 3) := by decide +kernel
theorem dX6_take_4 : decode cX6_take 4 = .ok (.aload_n 0, 1) := by decide +kernel
theorem dX6_take_5 : decode cX6_take 5 = .ok (.getfield 25, 3) := by decide +kernel
theorem dX6_take_8 : decode cX6_take 8 = .ok (.invokevirtual 54, 3) := by decide +kernel
theorem dX6_take_11 : decode cX6_take 11 = .ok (.bipush 24, 2) := by decide +kernel
theorem dX6_take_13 : decode cX6_take 13 = .ok (.if_icmp .lt 14, 3) := by decide +kernel
theorem dX6_take_16 : decode cX6_take 16 = .ok (.new 58, 3) := by decide +kernel
theorem dX6_take_19 : decode cX6_take 19 = .ok (.dup, 1) := by decide +kernel
theorem dX6_take_20 : decode cX6_take 20 = .ok (.ldc_w 395, 3) := by decide +kernel
theorem dX6_take_23 : decode cX6_take 23 = .ok (.invokespecial 62, 3) := by decide +kernel
theorem dX6_take_26 : decode cX6_take 26 = .ok (.athrow, 1) := by decide +kernel
theorem dX6_take_27 : decode cX6_take 27 = .ok (.aload_n 0, 1) := by decide +kernel
theorem dX6_take_28 : decode cX6_take 28 = .ok (.new 397, 3) := by decide +kernel
theorem dX6_take_31 : decode cX6_take 31 = .ok (.dup, 1) := by decide +kernel
theorem dX6_take_32 : decode cX6_take 32 = .ok (.iconst 1, 1) := by decide +kernel
theorem dX6_take_33 : decode cX6_take 33 = .ok (.iload_n 1, 1) := by decide +kernel
theorem dX6_take_34 : decode cX6_take 34 = .ok (.ishl, 1) := by decide +kernel
theorem dX6_take_35 : decode cX6_take 35 = .ok (.iconst (-1), 1) := by decide +kernel
theorem dX6_take_36 : decode cX6_take 36 = .ok (.aconst_null, 1) := by decide +kernel
theorem dX6_take_37 : decode cX6_take 37 = .ok (.aconst_null, 1) := by decide +kernel
theorem dX6_take_38 : decode cX6_take 38 = .ok (.invokespecial 399, 3) := by decide +kernel
theorem dX6_take_41 : decode cX6_take 41 = .ok (.invokevirtual 402, 3) := by decide +kernel
theorem dX6_take_44 : decode cX6_take 44 = .ok (.ireturn, 1) := by decide +kernel
theorem dX6_make_0 : decode cX6_make 0 = .ok (.aload_n 0, 1) := by decide +kernel
theorem dX6_make_1 : decode cX6_make 1 = .ok (.iload_n 2, 1) := by decide +kernel
theorem dX6_make_2 : decode cX6_make 2 = .ok (.invokevirtual 406, 3) := by decide +kernel
theorem dX6_make_5 : decode cX6_make 5 = .ok (.iload_n 3, 1) := by decide +kernel
theorem dX6_make_6 : decode cX6_make 6 = .ok (.iconst (-1), 1) := by decide +kernel
theorem dX6_make_7 : decode cX6_make 7 = .ok (.if_icmp .eq 8, 3) := by decide +kernel
theorem dX6_make_10 : decode cX6_make 10 = .ok (.aload_n 0, 1) := by decide +kernel
theorem dX6_make_11 : decode cX6_make 11 = .ok (.iload_n 3, 1) := by decide +kernel
theorem dX6_make_12 : decode cX6_make 12 = .ok (.invokevirtual 406, 3) := by decide +kernel
theorem dX6_make_15 : decode cX6_make 15 = .ok (.iload_n 1, 1) := by decide +kernel
theorem dX6_make_16 : decode cX6_make 16 = .ok (.invokestatic 409, 3) := by decide +kernel
theorem dX6_make_19 : decode cX6_make 19 = .ok (.aload_n 0, 1) := by decide +kernel
theorem dX6_make_20 : decode cX6_make 20 = .ok (.getfield 25, 3) := by decide +kernel
theorem dX6_make_23 : decode cX6_make 23 = .ok (.invokevirtual 54, 3) := by decide +kernel
theorem dX6_make_26 : decode cX6_make 26 = .ok (.bipush 24, 2) := by decide +kernel
theorem dX6_make_28 : decode cX6_make 28 = .ok (.if_icmp .lt 14, 3) := by decide +kernel
theorem dX6_make_31 : decode cX6_make 31 = .ok (.new 58, 3) := by decide +kernel
theorem dX6_make_34 : decode cX6_make 34 = .ok (.dup, 1) := by decide +kernel
theorem dX6_make_35 : decode cX6_make 35 = .ok (.ldc_w 395, 3) := by decide +kernel
theorem dX6_make_38 : decode cX6_make 38 = .ok (.invokespecial 62, 3) := by decide +kernel
theorem dX6_make_41 : decode cX6_make 41 = .ok (.athrow, 1) := by decide +kernel
theorem dX6_make_42 : decode cX6_make 42 = .ok (.aload_n 0, 1) := by decide +kernel
theorem dX6_make_43 : decode cX6_make 43 = .ok (.getfield 25, 3) := by decide +kernel
theorem dX6_make_46 : decode cX6_make 46 = .ok (.iload_n 2, 1) := by decide +kernel
theorem dX6_make_47 : decode cX6_make 47 = .ok (.invokevirtual 84, 3) := by decide +kernel
theorem dX6_make_50 : decode cX6_make 50 = .ok (.checkcast 397, 3) := by decide +kernel
theorem dX6_make_53 : decode cX6_make 53 = .ok (.astore 4, 2) := by decide +kernel
theorem dX6_make_55 : decode cX6_make 55 = .ok (.iload_n 3, 1) := by decide +kernel
theorem dX6_make_56 : decode cX6_make 56 = .ok (.iconst (-1), 1) := by decide +kernel
theorem dX6_make_57 : decode cX6_make 57 = .ok (.if_icmp .ne 8, 3) := by decide +kernel
theorem dX6_make_60 : decode cX6_make 60 = .ok (.aload 4, 2) := by decide +kernel
theorem dX6_make_62 : decode cX6_make 62 = .ok (.goto 14, 3) := by decide +kernel
theorem dX6_make_65 : decode cX6_make 65 = .ok (.aload_n 0, 1) := by decide +kernel
theorem dX6_make_66 : decode cX6_make 66 = .ok (.getfield 25, 3) := by decide +kernel
theorem dX6_make_69 : decode cX6_make 69 = .ok (.iload_n 3, 1) := by decide +kernel
theorem dX6_make_70 : decode cX6_make 70 = .ok (.invokevirtual 84, 3) := by decide +kernel
theorem dX6_make_73 : decode cX6_make 73 = .ok (.checkcast 397, 3) := by decide +kernel
theorem dX6_make_76 : decode cX6_make 76 = .ok (.astore 5, 2) := by decide +kernel
theorem dX6_make_78 : decode cX6_make 78 = .ok (.aload 4, 2) := by decide +kernel
theorem dX6_make_80 : decode cX6_make 80 = .ok (.getfield 412, 3) := by decide +kernel
theorem dX6_make_83 : decode cX6_make 83 = .ok (.aload 5, 2) := by decide +kernel
theorem dX6_make_85 : decode cX6_make 85 = .ok (.getfield 412, 3) := by decide +kernel
theorem dX6_make_88 : decode cX6_make 88 = .ok (.ior, 1) := by decide +kernel
theorem dX6_make_89 : decode cX6_make 89 = .ok (.istore 6, 2) := by decide +kernel
theorem dX6_make_91 : decode cX6_make 91 = .ok (.iload 6, 2) := by decide +kernel
theorem dX6_make_93 : decode cX6_make 93 = .ok (.aload_n 0, 1) := by decide +kernel
theorem dX6_make_94 : decode cX6_make 94 = .ok (.getfield 28, 3) := by decide +kernel
theorem dX6_make_97 : decode cX6_make 97 = .ok (.iload_n 1, 1) := by decide +kernel
theorem dX6_make_98 : decode cX6_make 98 = .ok (.iaload, 1) := by decide +kernel
theorem dX6_make_99 : decode cX6_make 99 = .ok (.iand, 1) := by decide +kernel
theorem dX6_make_100 : decode cX6_make 100 = .ok (.ifCond .eq 14, 3) := by decide +kernel
theorem dX6_make_103 : decode cX6_make 103 = .ok (.new 58, 3) := by decide +kernel
theorem dX6_make_106 : decode cX6_make 106 = .ok (.dup, 1) := by decide +kernel
theorem dX6_make_107 : decode cX6_make 107 = .ok (.ldc_w 415, 3) := by decide +kernel
theorem dX6_make_110 : decode cX6_make 110 = .ok (.invokespecial 62, 3) := by decide +kernel
theorem dX6_make_113 : decode cX6_make 113 = .ok (.athrow, 1) := by decide +kernel
theorem dX6_make_114 : decode cX6_make 114 = .ok (.aload_n 0, 1) := by decide +kernel
theorem dX6_make_115 : decode cX6_make 115 = .ok (.new 397, 3) := by decide +kernel
theorem dX6_make_118 : decode cX6_make 118 = .ok (.dup, 1) := by decide +kernel
theorem dX6_make_119 : decode cX6_make 119 = .ok (.iload 6, 2) := by decide +kernel
theorem dX6_make_121 : decode cX6_make 121 = .ok (.iload_n 1, 1) := by decide +kernel
theorem dX6_make_122 : decode cX6_make 122 = .ok (.aload 4, 2) := by decide +kernel
theorem dX6_make_124 : decode cX6_make 124 = .ok (.aload 5, 2) := by decide +kernel
theorem dX6_make_126 : decode cX6_make 126 = .ok (.invokespecial 399, 3) := by decide +kernel
theorem dX6_make_129 : decode cX6_make 129 = .ok (.invokevirtual 402, 3) := by decide +kernel
theorem dX6_make_132 : decode cX6_make 132 = .ok (.ireturn, 1) := by decide +kernel
theorem dX6_allow_0 : decode cX6_allow 0 = .ok (.iload_n 1, 1) := by decide +kernel
theorem dX6_allow_1 : decode cX6_allow 1 = .ok (.invokestatic 392, 3) := by decide +kernel
theorem dX6_allow_4 : decode cX6_allow 4 = .ok (.iload_n 2, 1) := by decide +kernel
theorem dX6_allow_5 : decode cX6_allow 5 = .ok (.invokestatic 409, 3) := by decide +kernel
theorem dX6_allow_8 : decode cX6_allow 8 = .ok (.iload_n 3, 1) := by decide +kernel
theorem dX6_allow_9 : decode cX6_allow 9 = .ok (.ifCond .eq 19, 3) := by decide +kernel
theorem dX6_allow_12 : decode cX6_allow 12 = .ok (.aload_n 0, 1) := by decide +kernel
theorem dX6_allow_13 : decode cX6_allow 13 = .ok (.getfield 28, 3) := by decide +kernel
theorem dX6_allow_16 : decode cX6_allow 16 = .ok (.iload_n 2, 1) := by decide +kernel
theorem dX6_allow_17 : decode cX6_allow 17 = .ok (.dup2, 1) := by decide +kernel
theorem dX6_allow_18 : decode cX6_allow 18 = .ok (.iaload, 1) := by decide +kernel
theorem dX6_allow_19 : decode cX6_allow 19 = .ok (.iconst 1, 1) := by decide +kernel
theorem dX6_allow_20 : decode cX6_allow 20 = .ok (.iload_n 1, 1) := by decide +kernel
theorem dX6_allow_21 : decode cX6_allow 21 = .ok (.ishl, 1) := by decide +kernel
theorem dX6_allow_22 : decode cX6_allow 22 = .ok (.iconst (-1), 1) := by decide +kernel
theorem dX6_allow_23 : decode cX6_allow 23 = .ok (.ixor, 1) := by decide +kernel
theorem dX6_allow_24 : decode cX6_allow 24 = .ok (.iand, 1) := by decide +kernel
theorem dX6_allow_25 : decode cX6_allow 25 = .ok (.iastore, 1) := by decide +kernel
theorem dX6_allow_26 : decode cX6_allow 26 = .ok (.iconst 0, 1) := by decide +kernel
theorem dX6_allow_27 : decode cX6_allow 27 = .ok (.ireturn, 1) := by decide +kernel
theorem dX6_allow_28 : decode cX6_allow 28 = .ok (.aload_n 0, 1) := by decide +kernel
theorem dX6_allow_29 : decode cX6_allow 29 = .ok (.getfield 28, 3) := by decide +kernel
theorem dX6_allow_32 : decode cX6_allow 32 = .ok (.iload_n 2, 1) := by decide +kernel
theorem dX6_allow_33 : decode cX6_allow 33 = .ok (.dup2, 1) := by decide +kernel
theorem dX6_allow_34 : decode cX6_allow 34 = .ok (.iaload, 1) := by decide +kernel
theorem dX6_allow_35 : decode cX6_allow 35 = .ok (.iconst 1, 1) := by decide +kernel
theorem dX6_allow_36 : decode cX6_allow 36 = .ok (.iload_n 1, 1) := by decide +kernel
theorem dX6_allow_37 : decode cX6_allow 37 = .ok (.ishl, 1) := by decide +kernel
theorem dX6_allow_38 : decode cX6_allow 38 = .ok (.ior, 1) := by decide +kernel
theorem dX6_allow_39 : decode cX6_allow 39 = .ok (.iastore, 1) := by decide +kernel
theorem dX6_allow_40 : decode cX6_allow 40 = .ok (.aload_n 0, 1) := by decide +kernel
theorem dX6_allow_41 : decode cX6_allow 41 = .ok (.iload_n 1, 1) := by decide +kernel
theorem dX6_allow_42 : decode cX6_allow 42 = .ok (.iload_n 2, 1) := by decide +kernel
theorem dX6_allow_43 : decode cX6_allow 43 = .ok (.invokevirtual 417, 3) := by decide +kernel
theorem dX6_allow_46 : decode cX6_allow 46 = .ok (.ireturn, 1) := by decide +kernel
theorem dX6_withdraw_0 : decode cX6_withdraw 0 = .ok (.iload_n 1, 1) := by decide +kernel
theorem dX6_withdraw_1 : decode cX6_withdraw 1 = .ok (.invokestatic 392, 3) := by decide +kernel
theorem dX6_withdraw_4 : decode cX6_withdraw 4 = .ok (.aload_n 0, 1) := by decide +kernel
theorem dX6_withdraw_5 : decode cX6_withdraw 5 = .ok (.iload_n 1, 1) := by decide +kernel
theorem dX6_withdraw_6 : decode cX6_withdraw 6 = .ok (.iconst (-1), 1) := by decide +kernel
theorem dX6_withdraw_7 : decode cX6_withdraw 7 = .ok (.invokevirtual 417, 3) := by decide +kernel
theorem dX6_withdraw_10 : decode cX6_withdraw 10 = .ok (.ireturn, 1) := by decide +kernel
theorem dX6_persons_0 : decode cX6_persons 0 = .ok (.iload_n 1, 1) := by decide +kernel
theorem dX6_persons_1 : decode cX6_persons 1 = .ok (.aload_n 0, 1) := by decide +kernel
theorem dX6_persons_2 : decode cX6_persons 2 = .ok (.getfield 25, 3) := by decide +kernel
theorem dX6_persons_5 : decode cX6_persons 5 = .ok (.invokevirtual 54, 3) := by decide +kernel
theorem dX6_persons_8 : decode cX6_persons 8 = .ok (.invokestatic 38, 3) := by decide +kernel
theorem dX6_persons_11 : decode cX6_persons 11 = .ok (.ifCond .ne 14, 3) := by decide +kernel
theorem dX6_persons_14 : decode cX6_persons 14 = .ok (.new 140, 3) := by decide +kernel
theorem dX6_persons_17 : decode cX6_persons 17 = .ok (.dup, 1) := by decide +kernel
theorem dX6_persons_18 : decode cX6_persons 18 = .ok (.ldc_w 420, 3) := by decide +kernel
theorem dX6_persons_21 : decode cX6_persons 21 = .ok (.invokespecial 144, 3) := by decide +kernel
theorem dX6_persons_24 : decode cX6_persons 24 = .ok (.athrow, 1) := by decide +kernel
theorem dX6_persons_25 : decode cX6_persons 25 = .ok (.aload_n 0, 1) := by decide +kernel
theorem dX6_persons_26 : decode cX6_persons 26 = .ok (.getfield 25, 3) := by decide +kernel
theorem dX6_persons_29 : decode cX6_persons 29 = .ok (.iload_n 1, 1) := by decide +kernel
theorem dX6_persons_30 : decode cX6_persons 30 = .ok (.invokevirtual 84, 3) := by decide +kernel
theorem dX6_persons_33 : decode cX6_persons 33 = .ok (.checkcast 397, 3) := by decide +kernel
theorem dX6_persons_36 : decode cX6_persons 36 = .ok (.astore_n 2, 1) := by decide +kernel
theorem dX6_persons_37 : decode cX6_persons 37 = .ok (.aload_n 2, 1) := by decide +kernel
theorem dX6_persons_38 : decode cX6_persons 38 = .ok (.getfield 422, 3) := by decide +kernel
theorem dX6_persons_41 : decode cX6_persons 41 = .ok (.ifCond .eq 7, 3) := by decide +kernel
theorem dX6_persons_44 : decode cX6_persons 44 = .ok (.iconst 0, 1) := by decide +kernel
theorem dX6_persons_45 : decode cX6_persons 45 = .ok (.goto 7, 3) := by decide +kernel
theorem dX6_persons_48 : decode cX6_persons 48 = .ok (.aload_n 2, 1) := by decide +kernel
theorem dX6_persons_49 : decode cX6_persons 49 = .ok (.getfield 412, 3) := by decide +kernel
theorem dX6_persons_52 : decode cX6_persons 52 = .ok (.ireturn, 1) := by decide +kernel
theorem dX6_mark_0 : decode cX6_mark 0 = .ok (.aload_n 0, 1) := by decide +kernel
theorem dX6_mark_1 : decode cX6_mark 1 = .ok (.iload_n 1, 1) := by decide +kernel
theorem dX6_mark_2 : decode cX6_mark 2 = .ok (.invokevirtual 406, 3) := by decide +kernel
theorem dX6_mark_5 : decode cX6_mark 5 = .ok (.iload_n 2, 1) := by decide +kernel
theorem dX6_mark_6 : decode cX6_mark 6 = .ok (.invokestatic 426, 3) := by decide +kernel
theorem dX6_mark_9 : decode cX6_mark 9 = .ok (.iload_n 3, 1) := by decide +kernel
theorem dX6_mark_10 : decode cX6_mark 10 = .ok (.invokestatic 429, 3) := by decide +kernel
theorem dX6_mark_13 : decode cX6_mark 13 = .ok (.iload 4, 2) := by decide +kernel
theorem dX6_mark_15 : decode cX6_mark 15 = .ok (.sipush 200, 3) := by decide +kernel
theorem dX6_mark_18 : decode cX6_mark 18 = .ok (.invokestatic 38, 3) := by decide +kernel
theorem dX6_mark_21 : decode cX6_mark 21 = .ok (.ifCond .eq 28, 3) := by decide +kernel
theorem dX6_mark_24 : decode cX6_mark 24 = .ok (.iload 5, 2) := by decide +kernel
theorem dX6_mark_26 : decode cX6_mark 26 = .ok (.iload 4, 2) := by decide +kernel
theorem dX6_mark_28 : decode cX6_mark 28 = .ok (.if_icmp .le 21, 3) := by decide +kernel
theorem dX6_mark_31 : decode cX6_mark 31 = .ok (.iload 5, 2) := by decide +kernel
theorem dX6_mark_33 : decode cX6_mark 33 = .ok (.sipush 200, 3) := by decide +kernel
theorem dX6_mark_36 : decode cX6_mark 36 = .ok (.if_icmp .gt 13, 3) := by decide +kernel
theorem dX6_mark_39 : decode cX6_mark 39 = .ok (.iload 6, 2) := by decide +kernel
theorem dX6_mark_41 : decode cX6_mark 41 = .ok (.bipush 10, 2) := by decide +kernel
theorem dX6_mark_43 : decode cX6_mark 43 = .ok (.invokestatic 38, 3) := by decide +kernel
theorem dX6_mark_46 : decode cX6_mark 46 = .ok (.ifCond .ne 14, 3) := by decide +kernel
theorem dX6_mark_49 : decode cX6_mark 49 = .ok (.new 42, 3) := by decide +kernel
theorem dX6_mark_52 : decode cX6_mark 52 = .ok (.dup, 1) := by decide +kernel
theorem dX6_mark_53 : decode cX6_mark 53 = .ok (.ldc_w 432, 3) := by decide +kernel
theorem dX6_mark_56 : decode cX6_mark 56 = .ok (.invokespecial 46, 3) := by decide +kernel
theorem dX6_mark_59 : decode cX6_mark 59 = .ok (.athrow, 1) := by decide +kernel
theorem dX6_mark_60 : decode cX6_mark 60 = .ok (.aload_n 0, 1) := by decide +kernel
theorem dX6_mark_61 : decode cX6_mark 61 = .ok (.getfield 25, 3) := by decide +kernel
theorem dX6_mark_64 : decode cX6_mark 64 = .ok (.iload_n 1, 1) := by decide +kernel
theorem dX6_mark_65 : decode cX6_mark 65 = .ok (.invokevirtual 84, 3) := by decide +kernel
theorem dX6_mark_68 : decode cX6_mark 68 = .ok (.checkcast 397, 3) := by decide +kernel
theorem dX6_mark_71 : decode cX6_mark 71 = .ok (.astore 7, 2) := by decide +kernel
theorem dX6_mark_73 : decode cX6_mark 73 = .ok (.aload 7, 2) := by decide +kernel
theorem dX6_mark_75 : decode cX6_mark 75 = .ok (.iload_n 2, 1) := by decide +kernel
theorem dX6_mark_76 : decode cX6_mark 76 = .ok (.iload_n 3, 1) := by decide +kernel
theorem dX6_mark_77 : decode cX6_mark 77 = .ok (.invokevirtual 434, 3) := by decide +kernel
theorem dX6_mark_80 : decode cX6_mark 80 = .ok (.istore 8, 2) := by decide +kernel
theorem dX6_mark_82 : decode cX6_mark 82 = .ok (.iload 8, 2) := by decide +kernel
theorem dX6_mark_84 : decode cX6_mark 84 = .ok (.bipush 10, 2) := by decide +kernel
theorem dX6_mark_86 : decode cX6_mark 86 = .ok (.if_icmp .lt 14, 3) := by decide +kernel
theorem dX6_mark_89 : decode cX6_mark 89 = .ok (.new 58, 3) := by decide +kernel
theorem dX6_mark_92 : decode cX6_mark 92 = .ok (.dup, 1) := by decide +kernel
theorem dX6_mark_93 : decode cX6_mark 93 = .ok (.ldc_w 437, 3) := by decide +kernel
theorem dX6_mark_96 : decode cX6_mark 96 = .ok (.invokespecial 62, 3) := by decide +kernel
theorem dX6_mark_99 : decode cX6_mark 99 = .ok (.athrow, 1) := by decide +kernel
theorem dX6_mark_100 : decode cX6_mark 100 = .ok (.aload 7, 2) := by decide +kernel
theorem dX6_mark_102 : decode cX6_mark 102 = .ok (.iload_n 2, 1) := by decide +kernel
theorem dX6_mark_103 : decode cX6_mark 103 = .ok (.iload_n 3, 1) := by decide +kernel
theorem dX6_mark_104 : decode cX6_mark 104 = .ok (.iload 4, 2) := by decide +kernel
theorem dX6_mark_106 : decode cX6_mark 106 = .ok (.iload 5, 2) := by decide +kernel
theorem dX6_mark_108 : decode cX6_mark 108 = .ok (.invokevirtual 439, 3) := by decide +kernel
theorem dX6_mark_111 : decode cX6_mark 111 = .ok (.ifCond .eq 14, 3) := by decide +kernel
theorem dX6_mark_114 : decode cX6_mark 114 = .ok (.new 58, 3) := by decide +kernel
theorem dX6_mark_117 : decode cX6_mark 117 = .ok (.dup, 1) := by decide +kernel
theorem dX6_mark_118 : decode cX6_mark 118 = .ok (.ldc_w 442, 3) := by decide +kernel
theorem dX6_mark_121 : decode cX6_mark 121 = .ok (.invokespecial 62, 3) := by decide +kernel
theorem dX6_mark_124 : decode cX6_mark 124 = .ok (.athrow, 1) := by decide +kernel
theorem dX6_mark_125 : decode cX6_mark 125 = .ok (.aload 7, 2) := by decide +kernel
theorem dX6_mark_127 : decode cX6_mark 127 = .ok (.getfield 444, 3) := by decide +kernel
theorem dX6_mark_130 : decode cX6_mark 130 = .ok (.new 447, 3) := by decide +kernel
theorem dX6_mark_133 : decode cX6_mark 133 = .ok (.dup, 1) := by decide +kernel
theorem dX6_mark_134 : decode cX6_mark 134 = .ok (.iload_n 2, 1) := by decide +kernel
theorem dX6_mark_135 : decode cX6_mark 135 = .ok (.iload_n 3, 1) := by decide +kernel
theorem dX6_mark_136 : decode cX6_mark 136 = .ok (.iload 4, 2) := by decide +kernel
theorem dX6_mark_138 : decode cX6_mark 138 = .ok (.iload 5, 2) := by decide +kernel
theorem dX6_mark_140 : decode cX6_mark 140 = .ok (.iload 6, 2) := by decide +kernel
theorem dX6_mark_142 : decode cX6_mark 142 = .ok (.invokespecial 449, 3) := by decide +kernel
theorem dX6_mark_145 : decode cX6_mark 145 = .ok (.invokevirtual 74, 3) := by decide +kernel
theorem dX6_mark_148 : decode cX6_mark 148 = .ok (.pop, 1) := by decide +kernel
theorem dX6_mark_149 : decode cX6_mark 149 = .ok (.iload 8, 2) := by decide +kernel
theorem dX6_mark_151 : decode cX6_mark 151 = .ok (.iconst 1, 1) := by decide +kernel
theorem dX6_mark_152 : decode cX6_mark 152 = .ok (.iadd, 1) := by decide +kernel
theorem dX6_mark_153 : decode cX6_mark 153 = .ok (.ireturn, 1) := by decide +kernel
theorem dX6_agree_0 : decode cX6_agree 0 = .ok (.aload_n 0, 1) := by decide +kernel
theorem dX6_agree_1 : decode cX6_agree 1 = .ok (.iload_n 1, 1) := by decide +kernel
theorem dX6_agree_2 : decode cX6_agree 2 = .ok (.invokevirtual 406, 3) := by decide +kernel
theorem dX6_agree_5 : decode cX6_agree 5 = .ok (.iload_n 2, 1) := by decide +kernel
theorem dX6_agree_6 : decode cX6_agree 6 = .ok (.invokestatic 426, 3) := by decide +kernel
theorem dX6_agree_9 : decode cX6_agree 9 = .ok (.iload_n 3, 1) := by decide +kernel
theorem dX6_agree_10 : decode cX6_agree 10 = .ok (.invokestatic 426, 3) := by decide +kernel
theorem dX6_agree_13 : decode cX6_agree 13 = .ok (.iload 4, 2) := by decide +kernel
theorem dX6_agree_15 : decode cX6_agree 15 = .ok (.invokestatic 429, 3) := by decide +kernel
theorem dX6_agree_18 : decode cX6_agree 18 = .ok (.iload 5, 2) := by decide +kernel
theorem dX6_agree_20 : decode cX6_agree 20 = .ok (.iconst 3, 1) := by decide +kernel
theorem dX6_agree_21 : decode cX6_agree 21 = .ok (.invokestatic 38, 3) := by decide +kernel
theorem dX6_agree_24 : decode cX6_agree 24 = .ok (.ifCond .ne 13, 3) := by decide +kernel
theorem dX6_agree_27 : decode cX6_agree 27 = .ok (.new 42, 3) := by decide +kernel
theorem dX6_agree_30 : decode cX6_agree 30 = .ok (.dup, 1) := by decide +kernel
theorem dX6_agree_31 : decode cX6_agree 31 = .ok (.ldc 82, 2) := by decide +kernel
theorem dX6_agree_33 : decode cX6_agree 33 = .ok (.invokespecial 46, 3) := by decide +kernel
theorem dX6_agree_36 : decode cX6_agree 36 = .ok (.athrow, 1) := by decide +kernel
theorem dX6_agree_37 : decode cX6_agree 37 = .ok (.aload_n 0, 1) := by decide +kernel
theorem dX6_agree_38 : decode cX6_agree 38 = .ok (.getfield 25, 3) := by decide +kernel
theorem dX6_agree_41 : decode cX6_agree 41 = .ok (.iload_n 1, 1) := by decide +kernel
theorem dX6_agree_42 : decode cX6_agree 42 = .ok (.invokevirtual 84, 3) := by decide +kernel
theorem dX6_agree_45 : decode cX6_agree 45 = .ok (.checkcast 397, 3) := by decide +kernel
theorem dX6_agree_48 : decode cX6_agree 48 = .ok (.astore 6, 2) := by decide +kernel
theorem dX6_agree_50 : decode cX6_agree 50 = .ok (.aload 6, 2) := by decide +kernel
theorem dX6_agree_52 : decode cX6_agree 52 = .ok (.iload_n 2, 1) := by decide +kernel
theorem dX6_agree_53 : decode cX6_agree 53 = .ok (.iload 4, 2) := by decide +kernel
theorem dX6_agree_55 : decode cX6_agree 55 = .ok (.aload_n 0, 1) := by decide +kernel
theorem dX6_agree_56 : decode cX6_agree 56 = .ok (.getfield 32, 3) := by decide +kernel
theorem dX6_agree_59 : decode cX6_agree 59 = .ok (.invokevirtual 452, 3) := by decide +kernel
theorem dX6_agree_62 : decode cX6_agree 62 = .ok (.aload 6, 2) := by decide +kernel
theorem dX6_agree_64 : decode cX6_agree 64 = .ok (.iload_n 3, 1) := by decide +kernel
theorem dX6_agree_65 : decode cX6_agree 65 = .ok (.iload 4, 2) := by decide +kernel
theorem dX6_agree_67 : decode cX6_agree 67 = .ok (.aload_n 0, 1) := by decide +kernel
theorem dX6_agree_68 : decode cX6_agree 68 = .ok (.getfield 35, 3) := by decide +kernel
theorem dX6_agree_71 : decode cX6_agree 71 = .ok (.invokevirtual 452, 3) := by decide +kernel
theorem dX6_agree_74 : decode cX6_agree 74 = .ok (.iload 5, 2) := by decide +kernel
theorem dX6_agree_76 : decode cX6_agree 76 = .ok (.lookupswitch 38 #[(0, 28), (1, 33)], 28) := by decide +kernel
theorem dX6_agree_104 : decode cX6_agree 104 = .ok (.aload_n 0, 1) := by decide +kernel
theorem dX6_agree_105 : decode cX6_agree 105 = .ok (.invokevirtual 456, 3) := by decide +kernel
theorem dX6_agree_108 : decode cX6_agree 108 = .ok (.ireturn, 1) := by decide +kernel
theorem dX6_agree_109 : decode cX6_agree 109 = .ok (.aload_n 0, 1) := by decide +kernel
theorem dX6_agree_110 : decode cX6_agree 110 = .ok (.invokevirtual 459, 3) := by decide +kernel
theorem dX6_agree_113 : decode cX6_agree 113 = .ok (.ireturn, 1) := by decide +kernel
theorem dX6_agree_114 : decode cX6_agree 114 = .ok (.aload_n 0, 1) := by decide +kernel
theorem dX6_agree_115 : decode cX6_agree 115 = .ok (.aload 6, 2) := by decide +kernel
theorem dX6_agree_117 : decode cX6_agree 117 = .ok (.iload_n 2, 1) := by decide +kernel
theorem dX6_agree_118 : decode cX6_agree 118 = .ok (.iload 4, 2) := by decide +kernel
theorem dX6_agree_120 : decode cX6_agree 120 = .ok (.invokevirtual 462, 3) := by decide +kernel
theorem dX6_agree_123 : decode cX6_agree 123 = .ok (.ireturn, 1) := by decide +kernel
theorem dX6_keepClip_0 : decode cX6_keepClip 0 = .ok (.aload_n 0, 1) := by decide +kernel
theorem dX6_keepClip_1 : decode cX6_keepClip 1 = .ok (.getfield 25, 3) := by decide +kernel
theorem dX6_keepClip_4 : decode cX6_keepClip 4 = .ok (.aload_n 1, 1) := by decide +kernel
theorem dX6_keepClip_5 : decode cX6_keepClip 5 = .ok (.invokevirtual 74, 3) := by decide +kernel
theorem dX6_keepClip_8 : decode cX6_keepClip 8 = .ok (.pop, 1) := by decide +kernel
theorem dX6_keepClip_9 : decode cX6_keepClip 9 = .ok (.aload_n 0, 1) := by decide +kernel
theorem dX6_keepClip_10 : decode cX6_keepClip 10 = .ok (.getfield 25, 3) := by decide +kernel
theorem dX6_keepClip_13 : decode cX6_keepClip 13 = .ok (.invokevirtual 54, 3) := by decide +kernel
theorem dX6_keepClip_16 : decode cX6_keepClip 16 = .ok (.iconst 1, 1) := by decide +kernel
theorem dX6_keepClip_17 : decode cX6_keepClip 17 = .ok (.isub, 1) := by decide +kernel
