theorem dX6_keepClip_18 : decode cX6_keepClip 18 = .ok (.ireturn, 1) := by decide +kernel
theorem dX6_letGo_0 : decode cX6_letGo 0 = .ok (.iconst 0, 1) := by decide +kernel
theorem dX6_letGo_1 : decode cX6_letGo 1 = .ok (.istore_n 3, 1) := by decide +kernel
theorem dX6_letGo_2 : decode cX6_letGo 2 = .ok (.iconst 0, 1) := by decide +kernel
theorem dX6_letGo_3 : decode cX6_letGo 3 = .ok (.istore 4, 2) := by decide +kernel
theorem dX6_letGo_5 : decode cX6_letGo 5 = .ok (.iload 4, 2) := by decide +kernel
theorem dX6_letGo_7 : decode cX6_letGo 7 = .ok (.aload_n 0, 1) := by decide +kernel
theorem dX6_letGo_8 : decode cX6_letGo 8 = .ok (.getfield 25, 3) := by decide +kernel
theorem dX6_letGo_11 : decode cX6_letGo 11 = .ok (.invokevirtual 54, 3) := by decide +kernel
theorem dX6_letGo_14 : decode cX6_letGo 14 = .ok (.if_icmp .ge 91, 3) := by decide +kernel
theorem dX6_letGo_17 : decode cX6_letGo 17 = .ok (.aload_n 0, 1) := by decide +kernel
theorem dX6_letGo_18 : decode cX6_letGo 18 = .ok (.getfield 25, 3) := by decide +kernel
theorem dX6_letGo_21 : decode cX6_letGo 21 = .ok (.iload 4, 2) := by decide +kernel
theorem dX6_letGo_23 : decode cX6_letGo 23 = .ok (.invokevirtual 84, 3) := by decide +kernel
theorem dX6_letGo_26 : decode cX6_letGo 26 = .ok (.checkcast 397, 3) := by decide +kernel
theorem dX6_letGo_29 : decode cX6_letGo 29 = .ok (.astore 5, 2) := by decide +kernel
theorem dX6_letGo_31 : decode cX6_letGo 31 = .ok (.aload 5, 2) := by decide +kernel
theorem dX6_letGo_33 : decode cX6_letGo 33 = .ok (.iload_n 1, 1) := by decide +kernel
theorem dX6_letGo_34 : decode cX6_letGo 34 = .ok (.invokevirtual 466, 3) := by decide +kernel
theorem dX6_letGo_37 : decode cX6_letGo 37 = .ok (.ifCond .eq 21, 3) := by decide +kernel
theorem dX6_letGo_40 : decode cX6_letGo 40 = .ok (.iload_n 2, 1) := by decide +kernel
theorem dX6_letGo_41 : decode cX6_letGo 41 = .ok (.iconst (-1), 1) := by decide +kernel
theorem dX6_letGo_42 : decode cX6_letGo 42 = .ok (.if_icmp .eq 12, 3) := by decide +kernel
theorem dX6_letGo_45 : decode cX6_letGo 45 = .ok (.aload 5, 2) := by decide +kernel
theorem dX6_letGo_47 : decode cX6_letGo 47 = .ok (.getfield 469, 3) := by decide +kernel
theorem dX6_letGo_50 : decode cX6_letGo 50 = .ok (.iload_n 2, 1) := by decide +kernel
theorem dX6_letGo_51 : decode cX6_letGo 51 = .ok (.if_icmp .ne 7, 3) := by decide +kernel
theorem dX6_letGo_54 : decode cX6_letGo 54 = .ok (.iconst 1, 1) := by decide +kernel
theorem dX6_letGo_55 : decode cX6_letGo 55 = .ok (.goto 4, 3) := by decide +kernel
theorem dX6_letGo_58 : decode cX6_letGo 58 = .ok (.iconst 0, 1) := by decide +kernel
theorem dX6_letGo_59 : decode cX6_letGo 59 = .ok (.istore 6, 2) := by decide +kernel
theorem dX6_letGo_61 : decode cX6_letGo 61 = .ok (.aload 5, 2) := by decide +kernel
theorem dX6_letGo_63 : decode cX6_letGo 63 = .ok (.getfield 422, 3) := by decide +kernel
theorem dX6_letGo_66 : decode cX6_letGo 66 = .ok (.ifCond .ne 33, 3) := by decide +kernel
theorem dX6_letGo_69 : decode cX6_letGo 69 = .ok (.iload 6, 2) := by decide +kernel
theorem dX6_letGo_71 : decode cX6_letGo 71 = .ok (.ifCond .ne 11, 3) := by decide +kernel
theorem dX6_letGo_74 : decode cX6_letGo 74 = .ok (.aload 5, 2) := by decide +kernel
theorem dX6_letGo_76 : decode cX6_letGo 76 = .ok (.invokevirtual 472, 3) := by decide +kernel
theorem dX6_letGo_79 : decode cX6_letGo 79 = .ok (.ifCond .eq 20, 3) := by decide +kernel
theorem dX6_letGo_82 : decode cX6_letGo 82 = .ok (.aload 5, 2) := by decide +kernel
theorem dX6_letGo_84 : decode cX6_letGo 84 = .ok (.iconst 1, 1) := by decide +kernel
theorem dX6_letGo_85 : decode cX6_letGo 85 = .ok (.putfield 422, 3) := by decide +kernel
theorem dX6_letGo_88 : decode cX6_letGo 88 = .ok (.aload 5, 2) := by decide +kernel
theorem dX6_letGo_90 : decode cX6_letGo 90 = .ok (.getfield 444, 3) := by decide +kernel
theorem dX6_letGo_93 : decode cX6_letGo 93 = .ok (.invokevirtual 174, 3) := by decide +kernel
theorem dX6_letGo_96 : decode cX6_letGo 96 = .ok (.iinc 3 1, 3) := by decide +kernel
theorem dX6_letGo_99 : decode cX6_letGo 99 = .ok (.iinc 4 1, 3) := by decide +kernel
theorem dX6_letGo_102 : decode cX6_letGo 102 = .ok (.goto (-97), 3) := by decide +kernel
theorem dX6_letGo_105 : decode cX6_letGo 105 = .ok (.iload_n 3, 1) := by decide +kernel
theorem dX6_letGo_106 : decode cX6_letGo 106 = .ok (.ireturn, 1) := by decide +kernel
theorem dX6_countTicksAlike_0 : decode cX6_countTicksAlike 0 = .ok (.iconst 0, 1) := by decide +kernel
theorem dX6_countTicksAlike_1 : decode cX6_countTicksAlike 1 = .ok (.istore_n 1, 1) := by decide +kernel
theorem dX6_countTicksAlike_2 : decode cX6_countTicksAlike 2 = .ok (.iconst 0, 1) := by decide +kernel
theorem dX6_countTicksAlike_3 : decode cX6_countTicksAlike 3 = .ok (.istore_n 2, 1) := by decide +kernel
theorem dX6_countTicksAlike_4 : decode cX6_countTicksAlike 4 = .ok (.iload_n 2, 1) := by decide +kernel
theorem dX6_countTicksAlike_5 : decode cX6_countTicksAlike 5 = .ok (.aload_n 0, 1) := by decide +kernel
theorem dX6_countTicksAlike_6 : decode cX6_countTicksAlike 6 = .ok (.getfield 32, 3) := by decide +kernel
theorem dX6_countTicksAlike_9 : decode cX6_countTicksAlike 9 = .ok (.arraylength, 1) := by decide +kernel
theorem dX6_countTicksAlike_10 : decode cX6_countTicksAlike 10 = .ok (.if_icmp .ge 46, 3) := by decide +kernel
theorem dX6_countTicksAlike_13 : decode cX6_countTicksAlike 13 = .ok (.iload_n 2, 1) := by decide +kernel
theorem dX6_countTicksAlike_14 : decode cX6_countTicksAlike 14 = .ok (.aload_n 0, 1) := by decide +kernel
theorem dX6_countTicksAlike_15 : decode cX6_countTicksAlike 15 = .ok (.getfield 35, 3) := by decide +kernel
theorem dX6_countTicksAlike_18 : decode cX6_countTicksAlike 18 = .ok (.arraylength, 1) := by decide +kernel
theorem dX6_countTicksAlike_19 : decode cX6_countTicksAlike 19 = .ok (.if_icmp .ge 37, 3) := by decide +kernel
theorem dX6_countTicksAlike_22 : decode cX6_countTicksAlike 22 = .ok (.aload_n 0, 1) := by decide +kernel
theorem dX6_countTicksAlike_23 : decode cX6_countTicksAlike 23 = .ok (.getfield 32, 3) := by decide +kernel
theorem dX6_countTicksAlike_26 : decode cX6_countTicksAlike 26 = .ok (.iload_n 2, 1) := by decide +kernel
theorem dX6_countTicksAlike_27 : decode cX6_countTicksAlike 27 = .ok (.iaload, 1) := by decide +kernel
theorem dX6_countTicksAlike_28 : decode cX6_countTicksAlike 28 = .ok (.iconst (-1), 1) := by decide +kernel
theorem dX6_countTicksAlike_29 : decode cX6_countTicksAlike 29 = .ok (.if_icmp .eq 21, 3) := by decide +kernel
theorem dX6_countTicksAlike_32 : decode cX6_countTicksAlike 32 = .ok (.aload_n 0, 1) := by decide +kernel
theorem dX6_countTicksAlike_33 : decode cX6_countTicksAlike 33 = .ok (.getfield 32, 3) := by decide +kernel
theorem dX6_countTicksAlike_36 : decode cX6_countTicksAlike 36 = .ok (.iload_n 2, 1) := by decide +kernel
theorem dX6_countTicksAlike_37 : decode cX6_countTicksAlike 37 = .ok (.iaload, 1) := by decide +kernel
theorem dX6_countTicksAlike_38 : decode cX6_countTicksAlike 38 = .ok (.aload_n 0, 1) := by decide +kernel
theorem dX6_countTicksAlike_39 : decode cX6_countTicksAlike 39 = .ok (.getfield 35, 3) := by decide +kernel
theorem dX6_countTicksAlike_42 : decode cX6_countTicksAlike 42 = .ok (.iload_n 2, 1) := by decide +kernel
theorem dX6_countTicksAlike_43 : decode cX6_countTicksAlike 43 = .ok (.iaload, 1) := by decide +kernel
theorem dX6_countTicksAlike_44 : decode cX6_countTicksAlike 44 = .ok (.if_icmp .ne 6, 3) := by decide +kernel
theorem dX6_countTicksAlike_47 : decode cX6_countTicksAlike 47 = .ok (.iinc 1 1, 3) := by decide +kernel
theorem dX6_countTicksAlike_50 : decode cX6_countTicksAlike 50 = .ok (.iinc 2 1, 3) := by decide +kernel
theorem dX6_countTicksAlike_53 : decode cX6_countTicksAlike 53 = .ok (.goto (-49), 3) := by decide +kernel
theorem dX6_countTicksAlike_56 : decode cX6_countTicksAlike 56 = .ok (.iload_n 1, 1) := by decide +kernel
theorem dX6_countTicksAlike_57 : decode cX6_countTicksAlike 57 = .ok (.ireturn, 1) := by decide +kernel
theorem dX6_countTicksWithValue_0 : decode cX6_countTicksWithValue 0 = .ok (.iconst 0, 1) := by decide +kernel
theorem dX6_countTicksWithValue_1 : decode cX6_countTicksWithValue 1 = .ok (.istore_n 1, 1) := by decide +kernel
theorem dX6_countTicksWithValue_2 : decode cX6_countTicksWithValue 2 = .ok (.iconst 0, 1) := by decide +kernel
theorem dX6_countTicksWithValue_3 : decode cX6_countTicksWithValue 3 = .ok (.istore_n 2, 1) := by decide +kernel
theorem dX6_countTicksWithValue_4 : decode cX6_countTicksWithValue 4 = .ok (.iload_n 2, 1) := by decide +kernel
theorem dX6_countTicksWithValue_5 : decode cX6_countTicksWithValue 5 = .ok (.aload_n 0, 1) := by decide +kernel
theorem dX6_countTicksWithValue_6 : decode cX6_countTicksWithValue 6 = .ok (.getfield 32, 3) := by decide +kernel
theorem dX6_countTicksWithValue_9 : decode cX6_countTicksWithValue 9 = .ok (.arraylength, 1) := by decide +kernel
theorem dX6_countTicksWithValue_10 : decode cX6_countTicksWithValue 10 = .ok (.if_icmp .ge 41, 3) := by decide +kernel
theorem dX6_countTicksWithValue_13 : decode cX6_countTicksWithValue 13 = .ok (.iload_n 2, 1) := by decide +kernel
theorem dX6_countTicksWithValue_14 : decode cX6_countTicksWithValue 14 = .ok (.aload_n 0, 1) := by decide +kernel
theorem dX6_countTicksWithValue_15 : decode cX6_countTicksWithValue 15 = .ok (.getfield 35, 3) := by decide +kernel
theorem dX6_countTicksWithValue_18 : decode cX6_countTicksWithValue 18 = .ok (.arraylength, 1) := by decide +kernel
theorem dX6_countTicksWithValue_19 : decode cX6_countTicksWithValue 19 = .ok (.if_icmp .ge 32, 3) := by decide +kernel
theorem dX6_countTicksWithValue_22 : decode cX6_countTicksWithValue 22 = .ok (.aload_n 0, 1) := by decide +kernel
theorem dX6_countTicksWithValue_23 : decode cX6_countTicksWithValue 23 = .ok (.getfield 32, 3) := by decide +kernel
theorem dX6_countTicksWithValue_26 : decode cX6_countTicksWithValue 26 = .ok (.iload_n 2, 1) := by decide +kernel
theorem dX6_countTicksWithValue_27 : decode cX6_countTicksWithValue 27 = .ok (.iaload, 1) := by decide +kernel
theorem dX6_countTicksWithValue_28 : decode cX6_countTicksWithValue 28 = .ok (.iconst (-1), 1) := by decide +kernel
theorem dX6_countTicksWithValue_29 : decode cX6_countTicksWithValue 29 = .ok (.if_icmp .ne 13, 3) := by decide +kernel
theorem dX6_countTicksWithValue_32 : decode cX6_countTicksWithValue 32 = .ok (.aload_n 0, 1) := by decide +kernel
theorem dX6_countTicksWithValue_33 : decode cX6_countTicksWithValue 33 = .ok (.getfield 35, 3) := by decide +kernel
theorem dX6_countTicksWithValue_36 : decode cX6_countTicksWithValue 36 = .ok (.iload_n 2, 1) := by decide +kernel
theorem dX6_countTicksWithValue_37 : decode cX6_countTicksWithValue 37 = .ok (.iaload, 1) := by decide +kernel
theorem dX6_countTicksWithValue_38 : decode cX6_countTicksWithValue 38 = .ok (.iconst (-1), 1) := by decide +kernel
theorem dX6_countTicksWithValue_39 : decode cX6_countTicksWithValue 39 = .ok (.if_icmp .eq 6, 3) := by decide +kernel
theorem dX6_countTicksWithValue_42 : decode cX6_countTicksWithValue 42 = .ok (.iinc 1 1, 3) := by decide +kernel
theorem dX6_countTicksWithValue_45 : decode cX6_countTicksWithValue 45 = .ok (.iinc 2 1, 3) := by decide +kernel
theorem dX6_countTicksWithValue_48 : decode cX6_countTicksWithValue 48 = .ok (.goto (-44), 3) := by decide +kernel
theorem dX6_countTicksWithValue_51 : decode cX6_countTicksWithValue 51 = .ok (.iload_n 1, 1) := by decide +kernel
theorem dX6_countTicksWithValue_52 : decode cX6_countTicksWithValue 52 = .ok (.ireturn, 1) := by decide +kernel
theorem dX6_countMarksShared_0 : decode cX6_countMarksShared 0 = .ok (.iconst 0, 1) := by decide +kernel
theorem dX6_countMarksShared_1 : decode cX6_countMarksShared 1 = .ok (.istore 4, 2) := by decide +kernel
theorem dX6_countMarksShared_3 : decode cX6_countMarksShared 3 = .ok (.iconst 0, 1) := by decide +kernel
theorem dX6_countMarksShared_4 : decode cX6_countMarksShared 4 = .ok (.istore 5, 2) := by decide +kernel
theorem dX6_countMarksShared_6 : decode cX6_countMarksShared 6 = .ok (.iload 5, 2) := by decide +kernel
theorem dX6_countMarksShared_8 : decode cX6_countMarksShared 8 = .ok (.aload_n 1, 1) := by decide +kernel
theorem dX6_countMarksShared_9 : decode cX6_countMarksShared 9 = .ok (.getfield 444, 3) := by decide +kernel
theorem dX6_countMarksShared_12 : decode cX6_countMarksShared 12 = .ok (.invokevirtual 54, 3) := by decide +kernel
theorem dX6_countMarksShared_15 : decode cX6_countMarksShared 15 = .ok (.if_icmp .ge 61, 3) := by decide +kernel
theorem dX6_countMarksShared_18 : decode cX6_countMarksShared 18 = .ok (.aload_n 1, 1) := by decide +kernel
theorem dX6_countMarksShared_19 : decode cX6_countMarksShared 19 = .ok (.getfield 444, 3) := by decide +kernel
theorem dX6_countMarksShared_22 : decode cX6_countMarksShared 22 = .ok (.iload 5, 2) := by decide +kernel
theorem dX6_countMarksShared_24 : decode cX6_countMarksShared 24 = .ok (.invokevirtual 84, 3) := by decide +kernel
theorem dX6_countMarksShared_27 : decode cX6_countMarksShared 27 = .ok (.checkcast 447, 3) := by decide +kernel
theorem dX6_countMarksShared_30 : decode cX6_countMarksShared 30 = .ok (.astore 6, 2) := by decide +kernel
theorem dX6_countMarksShared_32 : decode cX6_countMarksShared 32 = .ok (.aload 6, 2) := by decide +kernel
theorem dX6_countMarksShared_34 : decode cX6_countMarksShared 34 = .ok (.iload_n 2, 1) := by decide +kernel
theorem dX6_countMarksShared_35 : decode cX6_countMarksShared 35 = .ok (.iload_n 3, 1) := by decide +kernel
theorem dX6_countMarksShared_36 : decode cX6_countMarksShared 36 = .ok (.invokevirtual 475, 3) := by decide +kernel
theorem dX6_countMarksShared_39 : decode cX6_countMarksShared 39 = .ok (.ifCond .eq 31, 3) := by decide +kernel
theorem dX6_countMarksShared_42 : decode cX6_countMarksShared 42 = .ok (.iconst 2, 1) := by decide +kernel
theorem dX6_countMarksShared_43 : decode cX6_countMarksShared 43 = .ok (.aload 6, 2) := by decide +kernel
theorem dX6_countMarksShared_45 : decode cX6_countMarksShared 45 = .ok (.aload_n 0, 1) := by decide +kernel
theorem dX6_countMarksShared_46 : decode cX6_countMarksShared 46 = .ok (.getfield 35, 3) := by decide +kernel
theorem dX6_countMarksShared_49 : decode cX6_countMarksShared 49 = .ok (.invokevirtual 478, 3) := by decide +kernel
theorem dX6_countMarksShared_52 : decode cX6_countMarksShared 52 = .ok (.imul, 1) := by decide +kernel
theorem dX6_countMarksShared_53 : decode cX6_countMarksShared 53 = .ok (.aload 6, 2) := by decide +kernel
theorem dX6_countMarksShared_55 : decode cX6_countMarksShared 55 = .ok (.getfield 482, 3) := by decide +kernel
theorem dX6_countMarksShared_58 : decode cX6_countMarksShared 58 = .ok (.aload 6, 2) := by decide +kernel
theorem dX6_countMarksShared_60 : decode cX6_countMarksShared 60 = .ok (.getfield 483, 3) := by decide +kernel
theorem dX6_countMarksShared_63 : decode cX6_countMarksShared 63 = .ok (.isub, 1) := by decide +kernel
theorem dX6_countMarksShared_64 : decode cX6_countMarksShared 64 = .ok (.if_icmp .le 6, 3) := by decide +kernel
theorem dX6_countMarksShared_67 : decode cX6_countMarksShared 67 = .ok (.iinc 4 1, 3) := by decide +kernel
theorem dX6_countMarksShared_70 : decode cX6_countMarksShared 70 = .ok (.iinc 5 1, 3) := by decide +kernel
theorem dX6_countMarksShared_73 : decode cX6_countMarksShared 73 = .ok (.goto (-67), 3) := by decide +kernel
theorem dX6_countMarksShared_76 : decode cX6_countMarksShared 76 = .ok (.iload 4, 2) := by decide +kernel
theorem dX6_countMarksShared_78 : decode cX6_countMarksShared 78 = .ok (.ireturn, 1) := by decide +kernel
theorem dX6_requireClip_0 : decode cX6_requireClip 0 = .ok (.iload_n 1, 1) := by decide +kernel
theorem dX6_requireClip_1 : decode cX6_requireClip 1 = .ok (.aload_n 0, 1) := by decide +kernel
theorem dX6_requireClip_2 : decode cX6_requireClip 2 = .ok (.getfield 25, 3) := by decide +kernel
theorem dX6_requireClip_5 : decode cX6_requireClip 5 = .ok (.invokevirtual 54, 3) := by decide +kernel
theorem dX6_requireClip_8 : decode cX6_requireClip 8 = .ok (.invokestatic 38, 3) := by decide +kernel
theorem dX6_requireClip_11 : decode cX6_requireClip 11 = .ok (.ifCond .eq 20, 3) := by decide +kernel
theorem dX6_requireClip_14 : decode cX6_requireClip 14 = .ok (.aload_n 0, 1) := by decide +kernel
theorem dX6_requireClip_15 : decode cX6_requireClip 15 = .ok (.getfield 25, 3) := by decide +kernel
theorem dX6_requireClip_18 : decode cX6_requireClip 18 = .ok (.iload_n 1, 1) := by decide +kernel
theorem dX6_requireClip_19 : decode cX6_requireClip 19 = .ok (.invokevirtual 84, 3) := by decide +kernel
theorem dX6_requireClip_22 : decode cX6_requireClip 22 = .ok (.checkcast 397, 3) := by decide +kernel
theorem dX6_requireClip_25 : decode cX6_requireClip 25 = .ok (.getfield 422, 3) := by decide +kernel
theorem dX6_requireClip_28 : decode cX6_requireClip 28 = .ok (.ifCond .eq 14, 3) := by decide +kernel
theorem dX6_requireClip_31 : decode cX6_requireClip 31 = .ok (.new 140, 3) := by decide +kernel
theorem dX6_requireClip_34 : decode cX6_requireClip 34 = .ok (.dup, 1) := by decide +kernel
theorem dX6_requireClip_35 : decode cX6_requireClip 35 = .ok (.ldc_w 484, 3) := by decide +kernel
theorem dX6_requireClip_38 : decode cX6_requireClip 38 = .ok (.invokespecial 144, 3) := by decide +kernel
theorem dX6_requireClip_41 : decode cX6_requireClip 41 = .ok (.athrow, 1) := by decide +kernel
theorem dX6_requireClip_42 : decode cX6_requireClip 42 = .ok (.return_, 1) := by decide +kernel
theorem dX6_requirePerson_0 : decode cX6_requirePerson 0 = .ok (.iload_n 0, 1) := by decide +kernel
theorem dX6_requirePerson_1 : decode cX6_requirePerson 1 = .ok (.bipush 6, 2) := by decide +kernel
theorem dX6_requirePerson_3 : decode cX6_requirePerson 3 = .ok (.invokestatic 38, 3) := by decide +kernel
theorem dX6_requirePerson_6 : decode cX6_requirePerson 6 = .ok (.ifCond .ne 14, 3) := by decide +kernel
theorem dX6_requirePerson_9 : decode cX6_requirePerson 9 = .ok (.new 140, 3) := by decide +kernel
theorem dX6_requirePerson_12 : decode cX6_requirePerson 12 = .ok (.dup, 1) := by decide +kernel
theorem dX6_requirePerson_13 : decode cX6_requirePerson 13 = .ok (.ldc_w 486, 3) := by decide +kernel
theorem dX6_requirePerson_16 : decode cX6_requirePerson 16 = .ok (.invokespecial 144, 3) := by decide +kernel
theorem dX6_requirePerson_19 : decode cX6_requirePerson 19 = .ok (.athrow, 1) := by decide +kernel
theorem dX6_requirePerson_20 : decode cX6_requirePerson 20 = .ok (.return_, 1) := by decide +kernel
theorem dX6_requirePurpose_0 : decode cX6_requirePurpose 0 = .ok (.iload_n 0, 1) := by decide +kernel
theorem dX6_requirePurpose_1 : decode cX6_requirePurpose 1 = .ok (.iconst 3, 1) := by decide +kernel
theorem dX6_requirePurpose_2 : decode cX6_requirePurpose 2 = .ok (.invokestatic 38, 3) := by decide +kernel
theorem dX6_requirePurpose_5 : decode cX6_requirePurpose 5 = .ok (.ifCond .ne 14, 3) := by decide +kernel
theorem dX6_requirePurpose_8 : decode cX6_requirePurpose 8 = .ok (.new 42, 3) := by decide +kernel
theorem dX6_requirePurpose_11 : decode cX6_requirePurpose 11 = .ok (.dup, 1) := by decide +kernel
theorem dX6_requirePurpose_12 : decode cX6_requirePurpose 12 = .ok (.ldc_w 488, 3) := by decide +kernel
theorem dX6_requirePurpose_15 : decode cX6_requirePurpose 15 = .ok (.invokespecial 46, 3) := by decide +kernel
theorem dX6_requirePurpose_18 : decode cX6_requirePurpose 18 = .ok (.athrow, 1) := by decide +kernel
theorem dX6_requirePurpose_19 : decode cX6_requirePurpose 19 = .ok (.return_, 1) := by decide +kernel
theorem dX6_requireCoder_0 : decode cX6_requireCoder 0 = .ok (.iload_n 0, 1) := by decide +kernel
theorem dX6_requireCoder_1 : decode cX6_requireCoder 1 = .ok (.iconst 3, 1) := by decide +kernel
theorem dX6_requireCoder_2 : decode cX6_requireCoder 2 = .ok (.invokestatic 38, 3) := by decide +kernel
theorem dX6_requireCoder_5 : decode cX6_requireCoder 5 = .ok (.ifCond .ne 14, 3) := by decide +kernel
theorem dX6_requireCoder_8 : decode cX6_requireCoder 8 = .ok (.new 140, 3) := by decide +kernel
theorem dX6_requireCoder_11 : decode cX6_requireCoder 11 = .ok (.dup, 1) := by decide +kernel
theorem dX6_requireCoder_12 : decode cX6_requireCoder 12 = .ok (.ldc_w 490, 3) := by decide +kernel
theorem dX6_requireCoder_15 : decode cX6_requireCoder 15 = .ok (.invokespecial 144, 3) := by decide +kernel
theorem dX6_requireCoder_18 : decode cX6_requireCoder 18 = .ok (.athrow, 1) := by decide +kernel
theorem dX6_requireCoder_19 : decode cX6_requireCoder 19 = .ok (.return_, 1) := by decide +kernel
theorem dX6_requireTier_0 : decode cX6_requireTier 0 = .ok (.iload_n 0, 1) := by decide +kernel
theorem dX6_requireTier_1 : decode cX6_requireTier 1 = .ok (.iconst 4, 1) := by decide +kernel
theorem dX6_requireTier_2 : decode cX6_requireTier 2 = .ok (.invokestatic 38, 3) := by decide +kernel
theorem dX6_requireTier_5 : decode cX6_requireTier 5 = .ok (.ifCond .ne 14, 3) := by decide +kernel
theorem dX6_requireTier_8 : decode cX6_requireTier 8 = .ok (.new 140, 3) := by decide +kernel
theorem dX6_requireTier_11 : decode cX6_requireTier 11 = .ok (.dup, 1) := by decide +kernel
theorem dX6_requireTier_12 : decode cX6_requireTier 12 = .ok (.ldc_w 492, 3) := by decide +kernel
theorem dX6_requireTier_15 : decode cX6_requireTier 15 = .ok (.invokespecial 144, 3) := by decide +kernel
theorem dX6_requireTier_18 : decode cX6_requireTier 18 = .ok (.athrow, 1) := by decide +kernel
theorem dX6_requireTier_19 : decode cX6_requireTier 19 = .ok (.return_, 1) := by decide +kernel
theorem dX6_isBelow_0 : decode cX6_isBelow 0 = .ok (.iload_n 0, 1) := by decide +kernel
theorem dX6_isBelow_1 : decode cX6_isBelow 1 = .ok (.ifCond .lt 12, 3) := by decide +kernel
theorem dX6_isBelow_4 : decode cX6_isBelow 4 = .ok (.iload_n 0, 1) := by decide +kernel
theorem dX6_isBelow_5 : decode cX6_isBelow 5 = .ok (.iload_n 1, 1) := by decide +kernel
theorem dX6_isBelow_6 : decode cX6_isBelow 6 = .ok (.if_icmp .ge 7, 3) := by decide +kernel
theorem dX6_isBelow_9 : decode cX6_isBelow 9 = .ok (.iconst 1, 1) := by decide +kernel
theorem dX6_isBelow_10 : decode cX6_isBelow 10 = .ok (.goto 4, 3) := by decide +kernel
theorem dX6_isBelow_13 : decode cX6_isBelow 13 = .ok (.iconst 0, 1) := by decide +kernel
theorem dX6_isBelow_14 : decode cX6_isBelow 14 = .ok (.ireturn, 1) := by decide +kernel
theorem dX6_rowOf_0 : decode cX6_rowOf 0 = .ok (.iload_n 0, 1) := by decide +kernel
theorem dX6_rowOf_1 : decode cX6_rowOf 1 = .ok (.iconst 3, 1) := by decide +kernel
theorem dX6_rowOf_2 : decode cX6_rowOf 2 = .ok (.idiv, 1) := by decide +kernel
theorem dX6_rowOf_3 : decode cX6_rowOf 3 = .ok (.ireturn, 1) := by decide +kernel
theorem dX6_columnOf_0 : decode cX6_columnOf 0 = .ok (.iload_n 0, 1) := by decide +kernel
theorem dX6_columnOf_1 : decode cX6_columnOf 1 = .ok (.iconst 3, 1) := by decide +kernel
theorem dX6_columnOf_2 : decode cX6_columnOf 2 = .ok (.irem, 1) := by decide +kernel
theorem dX6_columnOf_3 : decode cX6_columnOf 3 = .ok (.ireturn, 1) := by decide +kernel
theorem dX6_distance_0 : decode cX6_distance 0 = .ok (.iload_n 0, 1) := by decide +kernel
theorem dX6_distance_1 : decode cX6_distance 1 = .ok (.invokestatic 121, 3) := by decide +kernel
theorem dX6_distance_4 : decode cX6_distance 4 = .ok (.iload_n 1, 1) := by decide +kernel
theorem dX6_distance_5 : decode cX6_distance 5 = .ok (.invokestatic 121, 3) := by decide +kernel
theorem dX6_distance_8 : decode cX6_distance 8 = .ok (.isub, 1) := by decide +kernel
theorem dX6_distance_9 : decode cX6_distance 9 = .ok (.invokestatic 314, 3) := by decide +kernel
theorem dX6_distance_12 : decode cX6_distance 12 = .ok (.iload_n 0, 1) := by decide +kernel
theorem dX6_distance_13 : decode cX6_distance 13 = .ok (.invokestatic 129, 3) := by decide +kernel
theorem dX6_distance_16 : decode cX6_distance 16 = .ok (.iload_n 1, 1) := by decide +kernel
theorem dX6_distance_17 : decode cX6_distance 17 = .ok (.invokestatic 129, 3) := by decide +kernel
theorem dX6_distance_20 : decode cX6_distance 20 = .ok (.isub, 1) := by decide +kernel
theorem dX6_distance_21 : decode cX6_distance 21 = .ok (.invokestatic 314, 3) := by decide +kernel
theorem dX6_distance_24 : decode cX6_distance 24 = .ok (.iadd, 1) := by decide +kernel
theorem dX6_distance_25 : decode cX6_distance 25 = .ok (.ireturn, 1) := by decide +kernel
theorem dX6_direction_0 : decode cX6_direction 0 = .ok (.iload_n 1, 1) := by decide +kernel
theorem dX6_direction_1 : decode cX6_direction 1 = .ok (.iload_n 0, 1) := by decide +kernel
theorem dX6_direction_2 : decode cX6_direction 2 = .ok (.if_icmp .ne 5, 3) := by decide +kernel
theorem dX6_direction_5 : decode cX6_direction 5 = .ok (.iconst 0, 1) := by decide +kernel
theorem dX6_direction_6 : decode cX6_direction 6 = .ok (.ireturn, 1) := by decide +kernel
theorem dX6_direction_7 : decode cX6_direction 7 = .ok (.iload_n 1, 1) := by decide +kernel
theorem dX6_direction_8 : decode cX6_direction 8 = .ok (.iload_n 0, 1) := by decide +kernel
theorem dX6_direction_9 : decode cX6_direction 9 = .ok (.if_icmp .le 7, 3) := by decide +kernel
theorem dX6_direction_12 : decode cX6_direction 12 = .ok (.iconst 1, 1) := by decide +kernel
theorem dX6_direction_13 : decode cX6_direction 13 = .ok (.goto 4, 3) := by decide +kernel
theorem dX6_direction_16 : decode cX6_direction 16 = .ok (.iconst (-1), 1) := by decide +kernel
theorem dX6_direction_17 : decode cX6_direction 17 = .ok (.ireturn, 1) := by decide +kernel
theorem dJ9_abs_0f7a4_0 : decode cJ9_abs_0f7a4 0 = .ok (.iload_n 0, 1) := by decide +kernel
theorem dJ9_abs_0f7a4_1 : decode cJ9_abs_0f7a4 1 = .ok (.ifCond .ge 8, 3) := by decide +kernel
theorem dJ9_abs_0f7a4_4 : decode cJ9_abs_0f7a4 4 = .ok (.iload_n 0, 1) := by decide +kernel
theorem dJ9_abs_0f7a4_5 : decode cJ9_abs_0f7a4 5 = .ok (.ineg, 1) := by decide +kernel
theorem dJ9_abs_0f7a4_6 : decode cJ9_abs_0f7a4 6 = .ok (.goto 4, 3) := by decide +kernel
theorem dJ9_abs_0f7a4_9 : decode cJ9_abs_0f7a4 9 = .ok (.iload_n 0, 1) := by decide +kernel
theorem dJ9_abs_0f7a4_10 : decode cJ9_abs_0f7a4 10 = .ok (.ireturn, 1) := by decide +kernel
theorem dJ9_max_7cf53_0 : decode cJ9_max_7cf53 0 = .ok (.iload_n 0, 1) := by decide +kernel
theorem dJ9_max_7cf53_1 : decode cJ9_max_7cf53 1 = .ok (.iload_n 1, 1) := by decide +kernel
theorem dJ9_max_7cf53_2 : decode cJ9_max_7cf53 2 = .ok (.if_icmp .lt 7, 3) := by decide +kernel
theorem dJ9_max_7cf53_5 : decode cJ9_max_7cf53 5 = .ok (.iload_n 0, 1) := by decide +kernel
theorem dJ9_max_7cf53_6 : decode cJ9_max_7cf53 6 = .ok (.goto 4, 3) := by decide +kernel
theorem dJ9_max_7cf53_9 : decode cJ9_max_7cf53 9 = .ok (.iload_n 1, 1) := by decide +kernel
theorem dJ9_max_7cf53_10 : decode cJ9_max_7cf53 10 = .ok (.ireturn, 1) := by decide +kernel
theorem dJ9_min_7cf53_0 : decode cJ9_min_7cf53 0 = .ok (.iload_n 0, 1) := by decide +kernel
theorem dJ9_min_7cf53_1 : decode cJ9_min_7cf53 1 = .ok (.iload_n 1, 1) := by decide +kernel
theorem dJ9_min_7cf53_2 : decode cJ9_min_7cf53 2 = .ok (.if_icmp .gt 7, 3) := by decide +kernel
theorem dJ9_min_7cf53_5 : decode cJ9_min_7cf53 5 = .ok (.iload_n 0, 1) := by decide +kernel
theorem dJ9_min_7cf53_6 : decode cJ9_min_7cf53 6 = .ok (.goto 4, 3) := by decide +kernel
theorem dJ9_min_7cf53_9 : decode cJ9_min_7cf53 9 = .ok (.iload_n 1, 1) := by decide +kernel
theorem dJ9_min_7cf53_10 : decode cJ9_min_7cf53 10 = .ok (.ireturn, 1) := by decide +kernel
theorem dJxa1e45_init_da8c8_0 : decode cJxa1e45_init_da8c8 0 = .ok (.aload_n 0, 1) := by decide +kernel
theorem dJxa1e45_init_da8c8_1 : decode cJxa1e45_init_da8c8 1 = .ok (.invokespecial 1, 3) := by decide +kernel
theorem dJxa1e45_init_da8c8_4 : decode cJxa1e45_init_da8c8 4 = .ok (.return_, 1) := by decide +kernel
theorem dJxc12de_init_da8c8_0 : decode cJxc12de_init_da8c8 0 = .ok (.aload_n 0, 1) := by decide +kernel
theorem dJxc12de_init_da8c8_1 : decode cJxc12de_init_da8c8 1 = .ok (.invokespecial 1, 3) := by decide +kernel
theorem dJxc12de_init_da8c8_4 : decode cJxc12de_init_da8c8 4 = .ok (.aload_n 0, 1) := by decide +kernel
theorem dJxc12de_init_da8c8_5 : decode cJxc12de_init_da8c8 5 = .ok (.iconst 0, 1) := by decide +kernel
theorem dJxc12de_init_da8c8_6 : decode cJxc12de_init_da8c8 6 = .ok (.putfield 7, 3) := by decide +kernel
theorem dJxc12de_init_da8c8_9 : decode cJxc12de_init_da8c8 9 = .ok (.return_, 1) := by decide +kernel
theorem dJx4a65c_init_da8c8_0 : decode cJx4a65c_init_da8c8 0 = .ok (.aload_n 0, 1) := by decide +kernel
theorem dJx4a65c_init_da8c8_1 : decode cJx4a65c_init_da8c8 1 = .ok (.invokespecial 1, 3) := by decide +kernel
theorem dJx4a65c_init_da8c8_4 : decode cJx4a65c_init_da8c8 4 = .ok (.aload_n 0, 1) := by decide +kernel
theorem dJx4a65c_init_da8c8_5 : decode cJx4a65c_init_da8c8 5 = .ok (.getstatic 39, 3) := by decide +kernel
theorem dJx4a65c_init_da8c8_8 : decode cJx4a65c_init_da8c8 8 = .ok (.putfield 9, 3) := by decide +kernel
theorem dJx4a65c_init_da8c8_11 : decode cJx4a65c_init_da8c8 11 = .ok (.return_, 1) := by decide +kernel
theorem dJx4a65c_grow_92f84_0 : decode cJx4a65c_grow_92f84 0 = .ok (.aload_n 0, 1) := by decide +kernel
theorem dJx4a65c_grow_92f84_1 : decode cJx4a65c_grow_92f84 1 = .ok (.getfield 9, 3) := by decide +kernel
theorem dJx4a65c_grow_92f84_4 : decode cJx4a65c_grow_92f84 4 = .ok (.arraylength, 1) := by decide +kernel
theorem dJx4a65c_grow_92f84_5 : decode cJx4a65c_grow_92f84 5 = .ok (.istore_n 2, 1) := by decide +kernel
theorem dJx4a65c_grow_92f84_6 : decode cJx4a65c_grow_92f84 6 = .ok (.iload_n 2, 1) := by decide +kernel
theorem dJx4a65c_grow_92f84_7 : decode cJx4a65c_grow_92f84 7 = .ok (.ifCond .gt 13, 3) := by decide +kernel
theorem dJx4a65c_grow_92f84_10 : decode cJx4a65c_grow_92f84 10 = .ok (.aload_n 0, 1) := by decide +kernel
theorem dJx4a65c_grow_92f84_11 : decode cJx4a65c_grow_92f84 11 = .ok (.getfield 9, 3) := by decide +kernel
theorem dJx4a65c_grow_92f84_14 : decode cJx4a65c_grow_92f84 14 = .ok (.getstatic 39, 3) := by decide +kernel
theorem dJx4a65c_grow_92f84_17 : decode cJx4a65c_grow_92f84 17 = .ok (.if_acmp .eq 28, 3) := by decide +kernel
theorem dJx4a65c_grow_92f84_20 : decode cJx4a65c_grow_92f84 20 = .ok (.iload_n 2, 1) := by decide +kernel
theorem dJx4a65c_grow_92f84_21 : decode cJx4a65c_grow_92f84 21 = .ok (.iload_n 1, 1) := by decide +kernel
theorem dJx4a65c_grow_92f84_22 : decode cJx4a65c_grow_92f84 22 = .ok (.iload_n 2, 1) := by decide +kernel
theorem dJx4a65c_grow_92f84_23 : decode cJx4a65c_grow_92f84 23 = .ok (.isub, 1) := by decide +kernel
theorem dJx4a65c_grow_92f84_24 : decode cJx4a65c_grow_92f84 24 = .ok (.iload_n 2, 1) := by decide +kernel
theorem dJx4a65c_grow_92f84_25 : decode cJx4a65c_grow_92f84 25 = .ok (.iconst 1, 1) := by decide +kernel
theorem dJx4a65c_grow_92f84_26 : decode cJx4a65c_grow_92f84 26 = .ok (.ishr, 1) := by decide +kernel
theorem dJx4a65c_grow_92f84_27 : decode cJx4a65c_grow_92f84 27 = .ok (.invokestatic 73, 3) := by decide +kernel
theorem dJx4a65c_grow_92f84_30 : decode cJx4a65c_grow_92f84 30 = .ok (.istore_n 3, 1) := by decide +kernel
theorem dJx4a65c_grow_92f84_31 : decode cJx4a65c_grow_92f84 31 = .ok (.aload_n 0, 1) := by decide +kernel
theorem dJx4a65c_grow_92f84_32 : decode cJx4a65c_grow_92f84 32 = .ok (.aload_n 0, 1) := by decide +kernel
theorem dJx4a65c_grow_92f84_33 : decode cJx4a65c_grow_92f84 33 = .ok (.getfield 9, 3) := by decide +kernel
theorem dJx4a65c_grow_92f84_36 : decode cJx4a65c_grow_92f84 36 = .ok (.iload_n 3, 1) := by decide +kernel
theorem dJx4a65c_grow_92f84_37 : decode cJx4a65c_grow_92f84 37 = .ok (.invokestatic 66, 3) := by decide +kernel
theorem dJx4a65c_grow_92f84_40 : decode cJx4a65c_grow_92f84 40 = .ok (.dup_x1, 1) := by decide +kernel
theorem dJx4a65c_grow_92f84_41 : decode cJx4a65c_grow_92f84 41 = .ok (.putfield 9, 3) := by decide +kernel
theorem dJx4a65c_grow_92f84_44 : decode cJx4a65c_grow_92f84 44 = .ok (.areturn, 1) := by decide +kernel
theorem dJx4a65c_grow_92f84_45 : decode cJx4a65c_grow_92f84 45 = .ok (.aload_n 0, 1) := by decide +kernel
theorem dJx4a65c_grow_92f84_46 : decode cJx4a65c_grow_92f84 46 = .ok (.bipush 10, 2) := by decide +kernel
theorem dJx4a65c_grow_92f84_48 : decode cJx4a65c_grow_92f84 48 = .ok (.iload_n 1, 1) := by decide +kernel
theorem dJx4a65c_grow_92f84_49 : decode cJx4a65c_grow_92f84 49 = .ok (.invokestatic 79, 3) := by decide +kernel
theorem dJx4a65c_grow_92f84_52 : decode cJx4a65c_grow_92f84 52 = .ok (.anewarray 7, 3) := by decide +kernel
theorem dJx4a65c_grow_92f84_55 : decode cJx4a65c_grow_92f84 55 = .ok (.dup_x1, 1) := by decide +kernel
theorem dJx4a65c_grow_92f84_56 : decode cJx4a65c_grow_92f84 56 = .ok (.putfield 9, 3) := by decide +kernel
theorem dJx4a65c_grow_92f84_59 : decode cJx4a65c_grow_92f84 59 = .ok (.areturn, 1) := by decide +kernel
theorem dJx4a65c_grow_d5877_0 : decode cJx4a65c_grow_d5877 0 = .ok (.aload_n 0, 1) := by decide +kernel
theorem dJx4a65c_grow_d5877_1 : decode cJx4a65c_grow_d5877 1 = .ok (.aload_n 0, 1) := by decide +kernel
theorem dJx4a65c_grow_d5877_2 : decode cJx4a65c_grow_d5877 2 = .ok (.getfield 48, 3) := by decide +kernel
theorem dJx4a65c_grow_d5877_5 : decode cJx4a65c_grow_d5877 5 = .ok (.iconst 1, 1) := by decide +kernel
theorem dJx4a65c_grow_d5877_6 : decode cJx4a65c_grow_d5877 6 = .ok (.iadd, 1) := by decide +kernel
theorem dJx4a65c_grow_d5877_7 : decode cJx4a65c_grow_d5877 7 = .ok (.invokevirtual 69, 3) := by decide +kernel
theorem dJx4a65c_grow_d5877_10 : decode cJx4a65c_grow_d5877 10 = .ok (.areturn, 1) := by decide +kernel
theorem dJx4a65c_size_8abf5_0 : decode cJx4a65c_size_8abf5 0 = .ok (.aload_n 0, 1) := by decide +kernel
theorem dJx4a65c_size_8abf5_1 : decode cJx4a65c_size_8abf5 1 = .ok (.getfield 48, 3) := by decide +kernel
theorem dJx4a65c_size_8abf5_4 : decode cJx4a65c_size_8abf5 4 = .ok (.ireturn, 1) := by decide +kernel
theorem dJx4a65c_elementData_915e3_0 : decode cJx4a65c_elementData_915e3 0 = .ok (.aload_n 0, 1) := by decide +kernel
theorem dJx4a65c_elementData_915e3_1 : decode cJx4a65c_elementData_915e3 1 = .ok (.getfield 9, 3) := by decide +kernel
theorem dJx4a65c_elementData_915e3_4 : decode cJx4a65c_elementData_915e3 4 = .ok (.iload_n 1, 1) := by decide +kernel
theorem dJx4a65c_elementData_915e3_5 : decode cJx4a65c_elementData_915e3 5 = .ok (.aaload, 1) := by decide +kernel
theorem dJx4a65c_elementData_915e3_6 : decode cJx4a65c_elementData_915e3 6 = .ok (.areturn, 1) := by decide +kernel
theorem dJx4a65c_get_915e3_0 : decode cJx4a65c_get_915e3 0 = .ok (.iload_n 1, 1) := by decide +kernel
theorem dJx4a65c_get_915e3_1 : decode cJx4a65c_get_915e3 1 = .ok (.aload_n 0, 1) := by decide +kernel
theorem dJx4a65c_get_915e3_2 : decode cJx4a65c_get_915e3 2 = .ok (.getfield 48, 3) := by decide +kernel
theorem dJx4a65c_get_915e3_5 : decode cJx4a65c_get_915e3 5 = .ok (.invokestatic 118, 3) := by decide +kernel
theorem dJx4a65c_get_915e3_8 : decode cJx4a65c_get_915e3 8 = .ok (.pop, 1) := by decide +kernel
theorem dJx4a65c_get_915e3_9 : decode cJx4a65c_get_915e3 9 = .ok (.aload_n 0, 1) := by decide +kernel
theorem dJx4a65c_get_915e3_10 : decode cJx4a65c_get_915e3 10 = .ok (.iload_n 1, 1) := by decide +kernel
theorem dJx4a65c_get_915e3_11 : decode cJx4a65c_get_915e3 11 = .ok (.invokevirtual 123, 3) := by decide +kernel
theorem dJx4a65c_get_915e3_14 : decode cJx4a65c_get_915e3 14 = .ok (.areturn, 1) := by decide +kernel
theorem dJx4a65c_add_72be8_0 : decode cJx4a65c_add_72be8 0 = .ok (.iload_n 3, 1) := by decide +kernel
theorem dJx4a65c_add_72be8_1 : decode cJx4a65c_add_72be8 1 = .ok (.aload_n 2, 1) := by decide +kernel
theorem dJx4a65c_add_72be8_2 : decode cJx4a65c_add_72be8 2 = .ok (.arraylength, 1) := by decide +kernel
theorem dJx4a65c_add_72be8_3 : decode cJx4a65c_add_72be8 3 = .ok (.if_icmp .ne 8, 3) := by decide +kernel
theorem dJx4a65c_add_72be8_6 : decode cJx4a65c_add_72be8 6 = .ok (.aload_n 0, 1) := by decide +kernel
theorem dJx4a65c_add_72be8_7 : decode cJx4a65c_add_72be8 7 = .ok (.invokevirtual 129, 3) := by decide +kernel
theorem dJx4a65c_add_72be8_10 : decode cJx4a65c_add_72be8 10 = .ok (.astore_n 2, 1) := by decide +kernel
theorem dJx4a65c_add_72be8_11 : decode cJx4a65c_add_72be8 11 = .ok (.aload_n 2, 1) := by decide +kernel
theorem dJx4a65c_add_72be8_12 : decode cJx4a65c_add_72be8 12 = .ok (.iload_n 3, 1) := by decide +kernel
theorem dJx4a65c_add_72be8_13 : decode cJx4a65c_add_72be8 13 = .ok (.aload_n 1, 1) := by decide +kernel
theorem dJx4a65c_add_72be8_14 : decode cJx4a65c_add_72be8 14 = .ok (.aastore, 1) := by decide +kernel
theorem dJx4a65c_add_72be8_15 : decode cJx4a65c_add_72be8 15 = .ok (.aload_n 0, 1) := by decide +kernel
theorem dJx4a65c_add_72be8_16 : decode cJx4a65c_add_72be8 16 = .ok (.iload_n 3, 1) := by decide +kernel
theorem dJx4a65c_add_72be8_17 : decode cJx4a65c_add_72be8 17 = .ok (.iconst 1, 1) := by decide +kernel
theorem dJx4a65c_add_72be8_18 : decode cJx4a65c_add_72be8 18 = .ok (.iadd, 1) := by decide +kernel
theorem dJx4a65c_add_72be8_19 : decode cJx4a65c_add_72be8 19 = .ok (.putfield 48, 3) := by decide +kernel
theorem dJx4a65c_add_72be8_22 : decode cJx4a65c_add_72be8 22 = .ok (.return_, 1) := by decide +kernel
theorem dJx4a65c_add_9ea2d_0 : decode cJx4a65c_add_9ea2d 0 = .ok (.aload_n 0, 1) := by decide +kernel
theorem dJx4a65c_add_9ea2d_1 : decode cJx4a65c_add_9ea2d 1 = .ok (.dup, 1) := by decide +kernel
theorem dJx4a65c_add_9ea2d_2 : decode cJx4a65c_add_9ea2d 2 = .ok (.getfield 63, 3) := by decide +kernel
theorem dJx4a65c_add_9ea2d_5 : decode cJx4a65c_add_9ea2d 5 = .ok (.iconst 1, 1) := by decide +kernel
theorem dJx4a65c_add_9ea2d_6 : decode cJx4a65c_add_9ea2d 6 = .ok (.iadd, 1) := by decide +kernel
theorem dJx4a65c_add_9ea2d_7 : decode cJx4a65c_add_9ea2d 7 = .ok (.putfield 63, 3) := by decide +kernel
theorem dJx4a65c_add_9ea2d_10 : decode cJx4a65c_add_9ea2d 10 = .ok (.aload_n 0, 1) := by decide +kernel
theorem dJx4a65c_add_9ea2d_11 : decode cJx4a65c_add_9ea2d 11 = .ok (.aload_n 1, 1) := by decide +kernel
theorem dJx4a65c_add_9ea2d_12 : decode cJx4a65c_add_9ea2d 12 = .ok (.aload_n 0, 1) := by decide +kernel
theorem dJx4a65c_add_9ea2d_13 : decode cJx4a65c_add_9ea2d 13 = .ok (.getfield 9, 3) := by decide +kernel
theorem dJx4a65c_add_9ea2d_16 : decode cJx4a65c_add_9ea2d 16 = .ok (.aload_n 0, 1) := by decide +kernel
theorem dJx4a65c_add_9ea2d_17 : decode cJx4a65c_add_9ea2d 17 = .ok (.getfield 48, 3) := by decide +kernel
theorem dJx4a65c_add_9ea2d_20 : decode cJx4a65c_add_9ea2d 20 = .ok (.invokevirtual 131, 3) := by decide +kernel
theorem dJx4a65c_add_9ea2d_23 : decode cJx4a65c_add_9ea2d 23 = .ok (.iconst 1, 1) := by decide +kernel
theorem dJx4a65c_add_9ea2d_24 : decode cJx4a65c_add_9ea2d 24 = .ok (.ireturn, 1) := by decide +kernel
theorem dJx4a65c_clear_da8c8_0 : decode cJx4a65c_clear_da8c8 0 = .ok (.aload_n 0, 1) := by decide +kernel
theorem dJx4a65c_clear_da8c8_1 : decode cJx4a65c_clear_da8c8 1 = .ok (.dup, 1) := by decide +kernel
theorem dJx4a65c_clear_da8c8_2 : decode cJx4a65c_clear_da8c8 2 = .ok (.getfield 63, 3) := by decide +kernel
theorem dJx4a65c_clear_da8c8_5 : decode cJx4a65c_clear_da8c8 5 = .ok (.iconst 1, 1) := by decide +kernel
theorem dJx4a65c_clear_da8c8_6 : decode cJx4a65c_clear_da8c8 6 = .ok (.iadd, 1) := by decide +kernel
theorem dJx4a65c_clear_da8c8_7 : decode cJx4a65c_clear_da8c8 7 = .ok (.putfield 63, 3) := by decide +kernel
theorem dJx4a65c_clear_da8c8_10 : decode cJx4a65c_clear_da8c8 10 = .ok (.aload_n 0, 1) := by decide +kernel
theorem dJx4a65c_clear_da8c8_11 : decode cJx4a65c_clear_da8c8 11 = .ok (.getfield 9, 3) := by decide +kernel
theorem dJx4a65c_clear_da8c8_14 : decode cJx4a65c_clear_da8c8 14 = .ok (.astore_n 1, 1) := by decide +kernel
theorem dJx4a65c_clear_da8c8_15 : decode cJx4a65c_clear_da8c8 15 = .ok (.aload_n 0, 1) := by decide +kernel
theorem dJx4a65c_clear_da8c8_16 : decode cJx4a65c_clear_da8c8 16 = .ok (.getfield 48, 3) := by decide +kernel
theorem dJx4a65c_clear_da8c8_19 : decode cJx4a65c_clear_da8c8 19 = .ok (.istore_n 2, 1) := by decide +kernel
theorem dJx4a65c_clear_da8c8_20 : decode cJx4a65c_clear_da8c8 20 = .ok (.aload_n 0, 1) := by decide +kernel
theorem dJx4a65c_clear_da8c8_21 : decode cJx4a65c_clear_da8c8 21 = .ok (.iconst 0, 1) := by decide +kernel
theorem dJx4a65c_clear_da8c8_22 : decode cJx4a65c_clear_da8c8 22 = .ok (.dup_x1, 1) := by decide +kernel
theorem dJx4a65c_clear_da8c8_23 : decode cJx4a65c_clear_da8c8 23 = .ok (.putfield 48, 3) := by decide +kernel
theorem dJx4a65c_clear_da8c8_26 : decode cJx4a65c_clear_da8c8 26 = .ok (.istore_n 3, 1) := by decide +kernel
theorem dJx4a65c_clear_da8c8_27 : decode cJx4a65c_clear_da8c8 27 = .ok (.iload_n 3, 1) := by decide +kernel
theorem dJx4a65c_clear_da8c8_28 : decode cJx4a65c_clear_da8c8 28 = .ok (.iload_n 2, 1) := by decide +kernel
theorem dJx4a65c_clear_da8c8_29 : decode cJx4a65c_clear_da8c8 29 = .ok (.if_icmp .ge 13, 3) := by decide +kernel
theorem dJx4a65c_clear_da8c8_32 : decode cJx4a65c_clear_da8c8 32 = .ok (.aload_n 1, 1) := by decide +kernel
theorem dJx4a65c_clear_da8c8_33 : decode cJx4a65c_clear_da8c8 33 = .ok (.iload_n 3, 1) := by decide +kernel
theorem dJx4a65c_clear_da8c8_34 : decode cJx4a65c_clear_da8c8 34 = .ok (.aconst_null, 1) := by decide +kernel
theorem dJx4a65c_clear_da8c8_35 : decode cJx4a65c_clear_da8c8 35 = .ok (.aastore, 1) := by decide +kernel
theorem dJx4a65c_clear_da8c8_36 : decode cJx4a65c_clear_da8c8 36 = .ok (.iinc 3 1, 3) := by decide +kernel
theorem dJx4a65c_clear_da8c8_39 : decode cJx4a65c_clear_da8c8 39 = .ok (.goto (-12), 3) := by decide +kernel
theorem dJx4a65c_clear_da8c8_42 : decode cJx4a65c_clear_da8c8 42 = .ok (.return_, 1) := by decide +kernel
theorem dJ7_copyOf_1904c_0 : decode cJ7_copyOf_1904c 0 = .ok (.aload_n 0, 1) := by decide +kernel
theorem dJ7_copyOf_1904c_1 : decode cJ7_copyOf_1904c 1 = .ok (.iload_n 1, 1) := by decide +kernel
theorem dJ7_copyOf_1904c_2 : decode cJ7_copyOf_1904c 2 = .ok (.aload_n 0, 1) := by decide +kernel
theorem dJ7_copyOf_1904c_3 : decode cJ7_copyOf_1904c 3 = .ok (.invokevirtual 86, 3) := by decide +kernel
theorem dJ7_copyOf_1904c_6 : decode cJ7_copyOf_1904c 6 = .ok (.invokestatic 300, 3) := by decide +kernel
theorem dJ7_copyOf_1904c_9 : decode cJ7_copyOf_1904c 9 = .ok (.areturn, 1) := by decide +kernel
theorem dJ7_copyOf_6403c_0 : decode cJ7_copyOf_6403c 0 = .ok (.aload_n 2, 1) := by decide +kernel
theorem dJ7_copyOf_6403c_1 : decode cJ7_copyOf_6403c 1 = .ok (.ldc 110, 2) := by decide +kernel
theorem dJ7_copyOf_6403c_3 : decode cJ7_copyOf_6403c 3 = .ok (.if_acmp .ne 10, 3) := by decide +kernel
theorem dJ7_copyOf_6403c_6 : decode cJ7_copyOf_6403c 6 = .ok (.iload_n 1, 1) := by decide +kernel
theorem dJ7_copyOf_6403c_7 : decode cJ7_copyOf_6403c 7 = .ok (.anewarray 2, 3) := by decide +kernel
theorem dJ7_copyOf_6403c_10 : decode cJ7_copyOf_6403c 10 = .ok (.goto 14, 3) := by decide +kernel
theorem dJ7_copyOf_6403c_13 : decode cJ7_copyOf_6403c 13 = .ok (.aload_n 2, 1) := by decide +kernel
theorem dJ7_copyOf_6403c_14 : decode cJ7_copyOf_6403c 14 = .ok (.invokevirtual 90, 3) := by decide +kernel
theorem dJ7_copyOf_6403c_17 : decode cJ7_copyOf_6403c 17 = .ok (.iload_n 1, 1) := by decide +kernel
theorem dJ7_copyOf_6403c_18 : decode cJ7_copyOf_6403c 18 = .ok (.invokestatic 95, 3) := by decide +kernel
theorem dJ7_copyOf_6403c_21 : decode cJ7_copyOf_6403c 21 = .ok (.checkcast 110, 3) := by decide +kernel
theorem dJ7_copyOf_6403c_24 : decode cJ7_copyOf_6403c 24 = .ok (.astore_n 3, 1) := by decide +kernel
theorem dJ7_copyOf_6403c_25 : decode cJ7_copyOf_6403c 25 = .ok (.aload_n 0, 1) := by decide +kernel
theorem dJ7_copyOf_6403c_26 : decode cJ7_copyOf_6403c 26 = .ok (.iconst 0, 1) := by decide +kernel
theorem dJ7_copyOf_6403c_27 : decode cJ7_copyOf_6403c 27 = .ok (.aload_n 3, 1) := by decide +kernel
theorem dJ7_copyOf_6403c_28 : decode cJ7_copyOf_6403c 28 = .ok (.iconst 0, 1) := by decide +kernel
theorem dJ7_copyOf_6403c_29 : decode cJ7_copyOf_6403c 29 = .ok (.aload_n 0, 1) := by decide +kernel
theorem dJ7_copyOf_6403c_30 : decode cJ7_copyOf_6403c 30 = .ok (.arraylength, 1) := by decide +kernel
theorem dJ7_copyOf_6403c_31 : decode cJ7_copyOf_6403c 31 = .ok (.iload_n 1, 1) := by decide +kernel
theorem dJ7_copyOf_6403c_32 : decode cJ7_copyOf_6403c 32 = .ok (.invokestatic 304, 3) := by decide +kernel
theorem dJ7_copyOf_6403c_35 : decode cJ7_copyOf_6403c 35 = .ok (.invokestatic 150, 3) := by decide +kernel
theorem dJ7_copyOf_6403c_38 : decode cJ7_copyOf_6403c 38 = .ok (.aload_n 3, 1) := by decide +kernel
theorem dJ7_copyOf_6403c_39 : decode cJ7_copyOf_6403c 39 = .ok (.areturn, 1) := by decide +kernel
theorem dJ15_checkIndex_7cf53_0 : decode cJ15_checkIndex_7cf53 0 = .ok (.iload_n 0, 1) := by decide +kernel
theorem dJ15_checkIndex_7cf53_1 : decode cJ15_checkIndex_7cf53 1 = .ok (.iload_n 1, 1) := by decide +kernel
theorem dJ15_checkIndex_7cf53_2 : decode cJ15_checkIndex_7cf53 2 = .ok (.aconst_null, 1) := by decide +kernel
theorem dJ15_checkIndex_7cf53_3 : decode cJ15_checkIndex_7cf53 3 = .ok (.invokestatic 105, 3) := by decide +kernel
theorem dJ15_checkIndex_7cf53_6 : decode cJ15_checkIndex_7cf53 6 = .ok (.ireturn, 1) := by decide +kernel
theorem dJ8_newLength_cabcc_0 : decode cJ8_newLength_cabcc 0 = .ok (.iload_n 0, 1) := by decide +kernel
theorem dJ8_newLength_cabcc_1 : decode cJ8_newLength_cabcc 1 = .ok (.iload_n 1, 1) := by decide +kernel
theorem dJ8_newLength_cabcc_2 : decode cJ8_newLength_cabcc 2 = .ok (.iload_n 2, 1) := by decide +kernel
theorem dJ8_newLength_cabcc_3 : decode cJ8_newLength_cabcc 3 = .ok (.invokestatic 194, 3) := by decide +kernel
theorem dJ8_newLength_cabcc_6 : decode cJ8_newLength_cabcc 6 = .ok (.iadd, 1) := by decide +kernel
theorem dJ8_newLength_cabcc_7 : decode cJ8_newLength_cabcc 7 = .ok (.istore_n 3, 1) := by decide +kernel
theorem dJ8_newLength_cabcc_8 : decode cJ8_newLength_cabcc 8 = .ok (.iconst 0, 1) := by decide +kernel
theorem dJ8_newLength_cabcc_9 : decode cJ8_newLength_cabcc 9 = .ok (.iload_n 3, 1) := by decide +kernel
theorem dJ8_newLength_cabcc_10 : decode cJ8_newLength_cabcc 10 = .ok (.if_icmp .ge 11, 3) := by decide +kernel
theorem dJ8_newLength_cabcc_13 : decode cJ8_newLength_cabcc 13 = .ok (.iload_n 3, 1) := by decide +kernel
theorem dJ8_newLength_cabcc_14 : decode cJ8_newLength_cabcc 14 = .ok (.ldc 200, 2) := by decide +kernel
theorem dJ8_newLength_cabcc_16 : decode cJ8_newLength_cabcc 16 = .ok (.if_icmp .gt 5, 3) := by decide +kernel
theorem dJ8_newLength_cabcc_19 : decode cJ8_newLength_cabcc 19 = .ok (.iload_n 3, 1) := by decide +kernel
theorem dJ8_newLength_cabcc_20 : decode cJ8_newLength_cabcc 20 = .ok (.ireturn, 1) := by decide +kernel
theorem dJ8_newLength_cabcc_21 : decode cJ8_newLength_cabcc 21 = .ok (.iload_n 0, 1) := by decide +kernel
theorem dJ8_newLength_cabcc_22 : decode cJ8_newLength_cabcc 22 = .ok (.iload_n 1, 1) := by decide +kernel
theorem dJ8_newLength_cabcc_23 : decode cJ8_newLength_cabcc 23 = .ok (.invokestatic 201, 3) := by decide +kernel
theorem dJ8_newLength_cabcc_26 : decode cJ8_newLength_cabcc 26 = .ok (.ireturn, 1) := by decide +kernel
theorem dJ8_hugeLength_7cf53_0 : decode cJ8_hugeLength_7cf53 0 = .ok (.iload_n 0, 1) := by decide +kernel
theorem dJ8_hugeLength_7cf53_1 : decode cJ8_hugeLength_7cf53 1 = .ok (.iload_n 1, 1) := by decide +kernel
theorem dJ8_hugeLength_7cf53_2 : decode cJ8_hugeLength_7cf53 2 = .ok (.iadd, 1) := by decide +kernel
theorem dJ8_hugeLength_7cf53_3 : decode cJ8_hugeLength_7cf53 3 = .ok (.istore_n 2, 1) := by decide +kernel
theorem dJ8_hugeLength_7cf53_4 : decode cJ8_hugeLength_7cf53 4 = .ok (.iload_n 2, 1) := by decide +kernel
theorem dJ8_hugeLength_7cf53_5 : decode cJ8_hugeLength_7cf53 5 = .ok (.ifCond .ge 44, 3) := by decide +kernel
theorem dJ8_hugeLength_7cf53_8 : decode cJ8_hugeLength_7cf53 8 = .ok (.new 204, 3) := by decide +kernel
theorem dJ8_hugeLength_7cf53_11 : decode cJ8_hugeLength_7cf53 11 = .ok (.dup, 1) := by decide +kernel
theorem dJ8_hugeLength_7cf53_12 : decode cJ8_hugeLength_7cf53 12 = .ok (.new 89, 3) := by decide +kernel
theorem dJ8_hugeLength_7cf53_15 : decode cJ8_hugeLength_7cf53 15 = .ok (.dup, 1) := by decide +kernel
theorem dJ8_hugeLength_7cf53_16 : decode cJ8_hugeLength_7cf53 16 = .ok (.invokespecial 91, 3) := by decide +kernel
theorem dJ8_hugeLength_7cf53_19 : decode cJ8_hugeLength_7cf53 19 = .ok (.ldc 206, 2) := by decide +kernel
theorem dJ8_hugeLength_7cf53_21 : decode cJ8_hugeLength_7cf53 21 = .ok (.invokevirtual 94, 3) := by decide +kernel
theorem dJ8_hugeLength_7cf53_24 : decode cJ8_hugeLength_7cf53 24 = .ok (.iload_n 0, 1) := by decide +kernel
theorem dJ8_hugeLength_7cf53_25 : decode cJ8_hugeLength_7cf53 25 = .ok (.invokevirtual 98, 3) := by decide +kernel
theorem dJ8_hugeLength_7cf53_28 : decode cJ8_hugeLength_7cf53 28 = .ok (.ldc 208, 2) := by decide +kernel
theorem dJ8_hugeLength_7cf53_30 : decode cJ8_hugeLength_7cf53 30 = .ok (.invokevirtual 94, 3) := by decide +kernel
theorem dJ8_hugeLength_7cf53_33 : decode cJ8_hugeLength_7cf53 33 = .ok (.iload_n 1, 1) := by decide +kernel
theorem dJ8_hugeLength_7cf53_34 : decode cJ8_hugeLength_7cf53 34 = .ok (.invokevirtual 98, 3) := by decide +kernel
theorem dJ8_hugeLength_7cf53_37 : decode cJ8_hugeLength_7cf53 37 = .ok (.ldc 210, 2) := by decide +kernel
theorem dJ8_hugeLength_7cf53_39 : decode cJ8_hugeLength_7cf53 39 = .ok (.invokevirtual 94, 3) := by decide +kernel
theorem dJ8_hugeLength_7cf53_42 : decode cJ8_hugeLength_7cf53 42 = .ok (.invokevirtual 101, 3) := by decide +kernel
theorem dJ8_hugeLength_7cf53_45 : decode cJ8_hugeLength_7cf53 45 = .ok (.invokespecial 212, 3) := by decide +kernel
theorem dJ8_hugeLength_7cf53_48 : decode cJ8_hugeLength_7cf53 48 = .ok (.athrow, 1) := by decide +kernel
theorem dJ8_hugeLength_7cf53_49 : decode cJ8_hugeLength_7cf53 49 = .ok (.iload_n 2, 1) := by decide +kernel
theorem dJ8_hugeLength_7cf53_50 : decode cJ8_hugeLength_7cf53 50 = .ok (.ldc 200, 2) := by decide +kernel
theorem dJ8_hugeLength_7cf53_52 : decode cJ8_hugeLength_7cf53 52 = .ok (.if_icmp .gt 6, 3) := by decide +kernel
theorem dJ8_hugeLength_7cf53_55 : decode cJ8_hugeLength_7cf53 55 = .ok (.ldc 200, 2) := by decide +kernel
theorem dJ8_hugeLength_7cf53_57 : decode cJ8_hugeLength_7cf53 57 = .ok (.ireturn, 1) := by decide +kernel
theorem dJ8_hugeLength_7cf53_58 : decode cJ8_hugeLength_7cf53 58 = .ok (.iload_n 2, 1) := by decide +kernel
theorem dJ8_hugeLength_7cf53_59 : decode cJ8_hugeLength_7cf53 59 = .ok (.ireturn, 1) := by decide +kernel
theorem dJ3_checkIndex_8e157_0 : decode cJ3_checkIndex_8e157 0 = .ok (.iload_n 0, 1) := by decide +kernel
theorem dJ3_checkIndex_8e157_1 : decode cJ3_checkIndex_8e157 1 = .ok (.ifCond .lt 8, 3) := by decide +kernel
theorem dJ3_checkIndex_8e157_4 : decode cJ3_checkIndex_8e157 4 = .ok (.iload_n 0, 1) := by decide +kernel
theorem dJ3_checkIndex_8e157_5 : decode cJ3_checkIndex_8e157 5 = .ok (.iload_n 1, 1) := by decide +kernel
theorem dJ3_checkIndex_8e157_6 : decode cJ3_checkIndex_8e157 6 = .ok (.if_icmp .lt 10, 3) := by decide +kernel
theorem dJ3_checkIndex_8e157_9 : decode cJ3_checkIndex_8e157 9 = .ok (.aload_n 2, 1) := by decide +kernel
theorem dJ3_checkIndex_8e157_10 : decode cJ3_checkIndex_8e157 10 = .ok (.iload_n 0, 1) := by decide +kernel
theorem dJ3_checkIndex_8e157_11 : decode cJ3_checkIndex_8e157 11 = .ok (.iload_n 1, 1) := by decide +kernel
theorem dJ3_checkIndex_8e157_12 : decode cJ3_checkIndex_8e157 12 = .ok (.invokestatic 95, 3) := by decide +kernel
theorem dJ3_checkIndex_8e157_15 : decode cJ3_checkIndex_8e157 15 = .ok (.athrow, 1) := by decide +kernel
theorem dJ3_checkIndex_8e157_16 : decode cJ3_checkIndex_8e157 16 = .ok (.iload_n 0, 1) := by decide +kernel
theorem dJ3_checkIndex_8e157_17 : decode cJ3_checkIndex_8e157 17 = .ok (.ireturn, 1) := by decide +kernel
theorem dL_act_0 : decode cL_act 0 = .ok (.iload_n 1, 1) := by decide +kernel
theorem dL_act_1 : decode cL_act 1 = .ok (.ifCond .ne 12, 3) := by decide +kernel
theorem dL_act_4 : decode cL_act 4 = .ok (.aload_n 0, 1) := by decide +kernel
theorem dL_act_5 : decode cL_act 5 = .ok (.iload_n 2, 1) := by decide +kernel
theorem dL_act_6 : decode cL_act 6 = .ok (.iload_n 3, 1) := by decide +kernel
theorem dL_act_7 : decode cL_act 7 = .ok (.invokevirtual 7, 3) := by decide +kernel
theorem dL_act_10 : decode cL_act 10 = .ok (.goto 252, 3) := by decide +kernel
theorem dL_act_13 : decode cL_act 13 = .ok (.iload_n 1, 1) := by decide +kernel
theorem dL_act_14 : decode cL_act 14 = .ok (.iconst 1, 1) := by decide +kernel
theorem dL_act_15 : decode cL_act 15 = .ok (.if_icmp .ne 12, 3) := by decide +kernel
theorem dL_act_18 : decode cL_act 18 = .ok (.aload_n 0, 1) := by decide +kernel
theorem dL_act_19 : decode cL_act 19 = .ok (.iload_n 2, 1) := by decide +kernel
theorem dL_act_20 : decode cL_act 20 = .ok (.iload_n 3, 1) := by decide +kernel
theorem dL_act_21 : decode cL_act 21 = .ok (.invokevirtual 13, 3) := by decide +kernel
theorem dL_act_24 : decode cL_act 24 = .ok (.goto 238, 3) := by decide +kernel
theorem dL_act_27 : decode cL_act 27 = .ok (.iload_n 1, 1) := by decide +kernel
theorem dL_act_28 : decode cL_act 28 = .ok (.iconst 2, 1) := by decide +kernel
theorem dL_act_29 : decode cL_act 29 = .ok (.if_icmp .ne 12, 3) := by decide +kernel
theorem dL_act_32 : decode cL_act 32 = .ok (.aload_n 0, 1) := by decide +kernel
theorem dL_act_33 : decode cL_act 33 = .ok (.iload_n 2, 1) := by decide +kernel
theorem dL_act_34 : decode cL_act 34 = .ok (.iload_n 3, 1) := by decide +kernel
theorem dL_act_35 : decode cL_act 35 = .ok (.invokevirtual 16, 3) := by decide +kernel
theorem dL_act_38 : decode cL_act 38 = .ok (.goto 224, 3) := by decide +kernel
theorem dL_act_41 : decode cL_act 41 = .ok (.iload_n 1, 1) := by decide +kernel
theorem dL_act_42 : decode cL_act 42 = .ok (.iconst 3, 1) := by decide +kernel
theorem dL_act_43 : decode cL_act 43 = .ok (.if_icmp .ne 16, 3) := by decide +kernel
theorem dL_act_46 : decode cL_act 46 = .ok (.aload_n 0, 1) := by decide +kernel
theorem dL_act_47 : decode cL_act 47 = .ok (.iload_n 2, 1) := by decide +kernel
theorem dL_act_48 : decode cL_act 48 = .ok (.iload_n 3, 1) := by decide +kernel
theorem dL_act_49 : decode cL_act 49 = .ok (.iload 4, 2) := by decide +kernel
theorem dL_act_51 : decode cL_act 51 = .ok (.iload 5, 2) := by decide +kernel
theorem dL_act_53 : decode cL_act 53 = .ok (.invokevirtual 19, 3) := by decide +kernel
theorem dL_act_56 : decode cL_act 56 = .ok (.goto 206, 3) := by decide +kernel
theorem dL_act_59 : decode cL_act 59 = .ok (.iload_n 1, 1) := by decide +kernel
theorem dL_act_60 : decode cL_act 60 = .ok (.iconst 4, 1) := by decide +kernel
theorem dL_act_61 : decode cL_act 61 = .ok (.if_icmp .ne 14, 3) := by decide +kernel
theorem dL_act_64 : decode cL_act 64 = .ok (.aload_n 0, 1) := by decide +kernel
theorem dL_act_65 : decode cL_act 65 = .ok (.iload_n 2, 1) := by decide +kernel
theorem dL_act_66 : decode cL_act 66 = .ok (.iload_n 3, 1) := by decide +kernel
theorem dL_act_67 : decode cL_act 67 = .ok (.iload 4, 2) := by decide +kernel
theorem dL_act_69 : decode cL_act 69 = .ok (.invokevirtual 23, 3) := by decide +kernel
theorem dL_act_72 : decode cL_act 72 = .ok (.goto 190, 3) := by decide +kernel
theorem dL_act_75 : decode cL_act 75 = .ok (.iload_n 1, 1) := by decide +kernel
theorem dL_act_76 : decode cL_act 76 = .ok (.iconst 5, 1) := by decide +kernel
theorem dL_act_77 : decode cL_act 77 = .ok (.if_icmp .ne 12, 3) := by decide +kernel
theorem dL_act_80 : decode cL_act 80 = .ok (.aload_n 0, 1) := by decide +kernel
theorem dL_act_81 : decode cL_act 81 = .ok (.iload_n 2, 1) := by decide +kernel
theorem dL_act_82 : decode cL_act 82 = .ok (.iload_n 3, 1) := by decide +kernel
theorem dL_act_83 : decode cL_act 83 = .ok (.invokevirtual 27, 3) := by decide +kernel
theorem dL_act_86 : decode cL_act 86 = .ok (.goto 176, 3) := by decide +kernel
theorem dL_act_89 : decode cL_act 89 = .ok (.iload_n 1, 1) := by decide +kernel
theorem dL_act_90 : decode cL_act 90 = .ok (.bipush 6, 2) := by decide +kernel
theorem dL_act_92 : decode cL_act 92 = .ok (.if_icmp .ne 12, 3) := by decide +kernel
theorem dL_act_95 : decode cL_act 95 = .ok (.aload_n 0, 1) := by decide +kernel
theorem dL_act_96 : decode cL_act 96 = .ok (.iload_n 2, 1) := by decide +kernel
theorem dL_act_97 : decode cL_act 97 = .ok (.iload_n 3, 1) := by decide +kernel
theorem dL_act_98 : decode cL_act 98 = .ok (.invokevirtual 30, 3) := by decide +kernel
theorem dL_act_101 : decode cL_act 101 = .ok (.goto 161, 3) := by decide +kernel
theorem dL_act_104 : decode cL_act 104 = .ok (.iload_n 1, 1) := by decide +kernel
theorem dL_act_105 : decode cL_act 105 = .ok (.bipush 7, 2) := by decide +kernel
theorem dL_act_107 : decode cL_act 107 = .ok (.if_icmp .ne 11, 3) := by decide +kernel
theorem dL_act_110 : decode cL_act 110 = .ok (.aload_n 0, 1) := by decide +kernel
theorem dL_act_111 : decode cL_act 111 = .ok (.iload_n 2, 1) := by decide +kernel
theorem dL_act_112 : decode cL_act 112 = .ok (.invokevirtual 33, 3) := by decide +kernel
theorem dL_act_115 : decode cL_act 115 = .ok (.goto 147, 3) := by decide +kernel
theorem dL_act_118 : decode cL_act 118 = .ok (.iload_n 1, 1) := by decide +kernel
theorem dL_act_119 : decode cL_act 119 = .ok (.bipush 8, 2) := by decide +kernel
theorem dL_act_121 : decode cL_act 121 = .ok (.if_icmp .ne 20, 3) := by decide +kernel
theorem dL_act_124 : decode cL_act 124 = .ok (.aload_n 0, 1) := by decide +kernel
theorem dL_act_125 : decode cL_act 125 = .ok (.iload_n 2, 1) := by decide +kernel
theorem dL_act_126 : decode cL_act 126 = .ok (.iload_n 3, 1) := by decide +kernel
theorem dL_act_127 : decode cL_act 127 = .ok (.invokevirtual 37, 3) := by decide +kernel
theorem dL_act_130 : decode cL_act 130 = .ok (.ifCond .eq 7, 3) := by decide +kernel
theorem dL_act_133 : decode cL_act 133 = .ok (.iconst 1, 1) := by decide +kernel
theorem dL_act_134 : decode cL_act 134 = .ok (.goto 128, 3) := by decide +kernel
theorem dL_act_137 : decode cL_act 137 = .ok (.iconst 0, 1) := by decide +kernel
theorem dL_act_138 : decode cL_act 138 = .ok (.goto 124, 3) := by decide +kernel
theorem dL_act_141 : decode cL_act 141 = .ok (.iload_n 1, 1) := by decide +kernel
theorem dL_act_142 : decode cL_act 142 = .ok (.bipush 9, 2) := by decide +kernel
theorem dL_act_144 : decode cL_act 144 = .ok (.if_icmp .ne 12, 3) := by decide +kernel
theorem dL_act_147 : decode cL_act 147 = .ok (.aload_n 0, 1) := by decide +kernel
theorem dL_act_148 : decode cL_act 148 = .ok (.iload_n 2, 1) := by decide +kernel
theorem dL_act_149 : decode cL_act 149 = .ok (.iload_n 3, 1) := by decide +kernel
theorem dL_act_150 : decode cL_act 150 = .ok (.invokevirtual 41, 3) := by decide +kernel
theorem dL_act_153 : decode cL_act 153 = .ok (.goto 109, 3) := by decide +kernel
theorem dL_act_156 : decode cL_act 156 = .ok (.iload_n 1, 1) := by decide +kernel
theorem dL_act_157 : decode cL_act 157 = .ok (.bipush 10, 2) := by decide +kernel
theorem dL_act_159 : decode cL_act 159 = .ok (.if_icmp .ne 12, 3) := by decide +kernel
theorem dL_act_162 : decode cL_act 162 = .ok (.aload_n 0, 1) := by decide +kernel
theorem dL_act_163 : decode cL_act 163 = .ok (.iload_n 2, 1) := by decide +kernel
theorem dL_act_164 : decode cL_act 164 = .ok (.iload_n 3, 1) := by decide +kernel
theorem dL_act_165 : decode cL_act 165 = .ok (.invokevirtual 44, 3) := by decide +kernel
theorem dL_act_168 : decode cL_act 168 = .ok (.goto 94, 3) := by decide +kernel
theorem dL_act_171 : decode cL_act 171 = .ok (.iload_n 1, 1) := by decide +kernel
theorem dL_act_172 : decode cL_act 172 = .ok (.bipush 11, 2) := by decide +kernel
theorem dL_act_174 : decode cL_act 174 = .ok (.if_icmp .ne 12, 3) := by decide +kernel
theorem dL_act_177 : decode cL_act 177 = .ok (.aload_n 0, 1) := by decide +kernel
theorem dL_act_178 : decode cL_act 178 = .ok (.iload_n 2, 1) := by decide +kernel
theorem dL_act_179 : decode cL_act 179 = .ok (.iload_n 3, 1) := by decide +kernel
theorem dL_act_180 : decode cL_act 180 = .ok (.invokevirtual 47, 3) := by decide +kernel
theorem dL_act_183 : decode cL_act 183 = .ok (.goto 79, 3) := by decide +kernel
theorem dL_act_186 : decode cL_act 186 = .ok (.iload_n 1, 1) := by decide +kernel
theorem dL_act_187 : decode cL_act 187 = .ok (.bipush 12, 2) := by decide +kernel
theorem dL_act_189 : decode cL_act 189 = .ok (.if_icmp .ne 11, 3) := by decide +kernel
theorem dL_act_192 : decode cL_act 192 = .ok (.aload_n 0, 1) := by decide +kernel
theorem dL_act_193 : decode cL_act 193 = .ok (.iload_n 2, 1) := by decide +kernel
theorem dL_act_194 : decode cL_act 194 = .ok (.invokevirtual 50, 3) := by decide +kernel
theorem dL_act_197 : decode cL_act 197 = .ok (.goto 65, 3) := by decide +kernel
theorem dL_act_200 : decode cL_act 200 = .ok (.iload_n 1, 1) := by decide +kernel
theorem dL_act_201 : decode cL_act 201 = .ok (.bipush 13, 2) := by decide +kernel
theorem dL_act_203 : decode cL_act 203 = .ok (.if_icmp .ne 14, 3) := by decide +kernel
theorem dL_act_206 : decode cL_act 206 = .ok (.aload_n 0, 1) := by decide +kernel
theorem dL_act_207 : decode cL_act 207 = .ok (.iload_n 2, 1) := by decide +kernel
theorem dL_act_208 : decode cL_act 208 = .ok (.iload_n 3, 1) := by decide +kernel
theorem dL_act_209 : decode cL_act 209 = .ok (.iload 4, 2) := by decide +kernel
theorem dL_act_211 : decode cL_act 211 = .ok (.invokevirtual 53, 3) := by decide +kernel
theorem dL_act_214 : decode cL_act 214 = .ok (.goto 48, 3) := by decide +kernel
theorem dL_act_217 : decode cL_act 217 = .ok (.iload_n 1, 1) := by decide +kernel
theorem dL_act_218 : decode cL_act 218 = .ok (.bipush 14, 2) := by decide +kernel
theorem dL_act_220 : decode cL_act 220 = .ok (.if_icmp .ne 23, 3) := by decide +kernel
theorem dL_act_223 : decode cL_act 223 = .ok (.aload_n 0, 1) := by decide +kernel
theorem dL_act_224 : decode cL_act 224 = .ok (.iload_n 2, 1) := by decide +kernel
theorem dL_act_225 : decode cL_act 225 = .ok (.iload_n 3, 1) := by decide +kernel
theorem dL_act_226 : decode cL_act 226 = .ok (.iload 4, 2) := by decide +kernel
theorem dL_act_228 : decode cL_act 228 = .ok (.iconst 1, 1) := by decide +kernel
theorem dL_act_229 : decode cL_act 229 = .ok (.if_icmp .ne 7, 3) := by decide +kernel
theorem dL_act_232 : decode cL_act 232 = .ok (.iconst 1, 1) := by decide +kernel
theorem dL_act_233 : decode cL_act 233 = .ok (.goto 4, 3) := by decide +kernel
theorem dL_act_236 : decode cL_act 236 = .ok (.iconst 0, 1) := by decide +kernel
theorem dL_act_237 : decode cL_act 237 = .ok (.invokevirtual 56, 3) := by decide +kernel
theorem dL_act_240 : decode cL_act 240 = .ok (.goto 22, 3) := by decide +kernel
theorem dL_act_243 : decode cL_act 243 = .ok (.iload_n 1, 1) := by decide +kernel
theorem dL_act_244 : decode cL_act 244 = .ok (.bipush 15, 2) := by decide +kernel
theorem dL_act_246 : decode cL_act 246 = .ok (.if_icmp .ne 11, 3) := by decide +kernel
theorem dL_act_249 : decode cL_act 249 = .ok (.aload_n 0, 1) := by decide +kernel
theorem dL_act_250 : decode cL_act 250 = .ok (.iload_n 2, 1) := by decide +kernel
theorem dL_act_251 : decode cL_act 251 = .ok (.invokevirtual 60, 3) := by decide +kernel
theorem dL_act_254 : decode cL_act 254 = .ok (.goto 8, 3) := by decide +kernel
theorem dL_act_257 : decode cL_act 257 = .ok (.aload_n 0, 1) := by decide +kernel
theorem dL_act_258 : decode cL_act 258 = .ok (.iload_n 2, 1) := by decide +kernel
theorem dL_act_259 : decode cL_act 259 = .ok (.invokevirtual 63, 3) := by decide +kernel
theorem dL_act_262 : decode cL_act 262 = .ok (.ireturn, 1) := by decide +kernel
theorem dL_act_263 : decode cL_act 263 = .ok (.astore 6, 2) := by decide +kernel
theorem dL_act_265 : decode cL_act 265 = .ok (.bipush (-71), 2) := by decide +kernel
theorem dL_act_267 : decode cL_act 267 = .ok (.ireturn, 1) := by decide +kernel
theorem dL_act_268 : decode cL_act 268 = .ok (.astore 6, 2) := by decide +kernel
theorem dL_act_270 : decode cL_act 270 = .ok (.bipush (-72), 2) := by decide +kernel
theorem dL_act_272 : decode cL_act 272 = .ok (.ireturn, 1) := by decide +kernel
theorem dL_act_273 : decode cL_act 273 = .ok (.astore 6, 2) := by decide +kernel
theorem dL_act_275 : decode cL_act 275 = .ok (.bipush (-73), 2) := by decide +kernel
theorem dL_act_277 : decode cL_act 277 = .ok (.ireturn, 1) := by decide +kernel
theorem dL_sign_0 : decode cL_sign 0 = .ok (.aload_n 0, 1) := by decide +kernel
theorem dL_sign_1 : decode cL_sign 1 = .ok (.iload_n 1, 1) := by decide +kernel
theorem dL_sign_2 : decode cL_sign 2 = .ok (.iload_n 2, 1) := by decide +kernel
theorem dL_sign_3 : decode cL_sign 3 = .ok (.iload_n 3, 1) := by decide +kernel
theorem dL_sign_4 : decode cL_sign 4 = .ok (.iload 4, 2) := by decide +kernel
theorem dL_sign_6 : decode cL_sign 6 = .ok (.iload 5, 2) := by decide +kernel
theorem dL_sign_8 : decode cL_sign 8 = .ok (.iload 6, 2) := by decide +kernel
theorem dL_sign_10 : decode cL_sign 10 = .ok (.iload 7, 2) := by decide +kernel
theorem dL_sign_12 : decode cL_sign 12 = .ok (.invokevirtual 72, 3) := by decide +kernel
theorem dL_sign_15 : decode cL_sign 15 = .ok (.ireturn, 1) := by decide +kernel
theorem dL_sign_16 : decode cL_sign 16 = .ok (.astore 8, 2) := by decide +kernel
theorem dL_sign_18 : decode cL_sign 18 = .ok (.bipush (-72), 2) := by decide +kernel
theorem dL_sign_20 : decode cL_sign 20 = .ok (.ireturn, 1) := by decide +kernel
theorem dL_sign_21 : decode cL_sign 21 = .ok (.astore 8, 2) := by decide +kernel
theorem dL_sign_23 : decode cL_sign 23 = .ok (.bipush (-73), 2) := by decide +kernel
theorem dL_sign_25 : decode cL_sign 25 = .ok (.ireturn, 1) := by decide +kernel
theorem dL_mark_0 : decode cL_mark 0 = .ok (.aload_n 0, 1) := by decide +kernel
theorem dL_mark_1 : decode cL_mark 1 = .ok (.iload_n 1, 1) := by decide +kernel
theorem dL_mark_2 : decode cL_mark 2 = .ok (.iload_n 2, 1) := by decide +kernel
theorem dL_mark_3 : decode cL_mark 3 = .ok (.iload_n 3, 1) := by decide +kernel
theorem dL_mark_4 : decode cL_mark 4 = .ok (.iload 4, 2) := by decide +kernel
theorem dL_mark_6 : decode cL_mark 6 = .ok (.iload 5, 2) := by decide +kernel
theorem dL_mark_8 : decode cL_mark 8 = .ok (.iload 6, 2) := by decide +kernel
theorem dL_mark_10 : decode cL_mark 10 = .ok (.invokevirtual 76, 3) := by decide +kernel
theorem dL_mark_13 : decode cL_mark 13 = .ok (.ireturn, 1) := by decide +kernel
theorem dL_mark_14 : decode cL_mark 14 = .ok (.astore 7, 2) := by decide +kernel
theorem dL_mark_16 : decode cL_mark 16 = .ok (.bipush (-71), 2) := by decide +kernel
theorem dL_mark_18 : decode cL_mark 18 = .ok (.ireturn, 1) := by decide +kernel
theorem dL_mark_19 : decode cL_mark 19 = .ok (.astore 7, 2) := by decide +kernel
theorem dL_mark_21 : decode cL_mark 21 = .ok (.bipush (-72), 2) := by decide +kernel
theorem dL_mark_23 : decode cL_mark 23 = .ok (.ireturn, 1) := by decide +kernel
theorem dL_mark_24 : decode cL_mark 24 = .ok (.astore 7, 2) := by decide +kernel
theorem dL_mark_26 : decode cL_mark 26 = .ok (.bipush (-73), 2) := by decide +kernel
theorem dL_mark_28 : decode cL_mark 28 = .ok (.ireturn, 1) := by decide +kernel
theorem dL_agree_0 : decode cL_agree 0 = .ok (.aload_n 0, 1) := by decide +kernel
theorem dL_agree_1 : decode cL_agree 1 = .ok (.iload_n 1, 1) := by decide +kernel
theorem dL_agree_2 : decode cL_agree 2 = .ok (.iload_n 2, 1) := by decide +kernel
theorem dL_agree_3 : decode cL_agree 3 = .ok (.iload_n 3, 1) := by decide +kernel
theorem dL_agree_4 : decode cL_agree 4 = .ok (.iload 4, 2) := by decide +kernel
theorem dL_agree_6 : decode cL_agree 6 = .ok (.iload 5, 2) := by decide +kernel
theorem dL_agree_8 : decode cL_agree 8 = .ok (.invokevirtual 80, 3) := by decide +kernel
theorem dL_agree_11 : decode cL_agree 11 = .ok (.ireturn, 1) := by decide +kernel
theorem dL_agree_12 : decode cL_agree 12 = .ok (.astore 6, 2) := by decide +kernel
theorem dL_agree_14 : decode cL_agree 14 = .ok (.bipush (-71), 2) := by decide +kernel
theorem dL_agree_16 : decode cL_agree 16 = .ok (.ireturn, 1) := by decide +kernel
theorem dL_agree_17 : decode cL_agree 17 = .ok (.astore 6, 2) := by decide +kernel
theorem dL_agree_19 : decode cL_agree 19 = .ok (.bipush (-72), 2) := by decide +kernel
theorem dL_agree_21 : decode cL_agree 21 = .ok (.ireturn, 1) := by decide +kernel
theorem dL_refuses_0 : decode cL_refuses 0 = .ok (.ldc 84, 2) := by decide +kernel
theorem dL_refuses_2 : decode cL_refuses 2 = .ok (.istore 5, 2) := by decide +kernel
theorem dL_refuses_4 : decode cL_refuses 4 = .ok (.iconst 0, 1) := by decide +kernel
theorem dL_refuses_5 : decode cL_refuses 5 = .ok (.istore 6, 2) := by decide +kernel
theorem dL_refuses_7 : decode cL_refuses 7 = .ok (.iload 6, 2) := by decide +kernel
theorem dL_refuses_9 : decode cL_refuses 9 = .ok (.iconst 4, 1) := by decide +kernel
theorem dL_refuses_10 : decode cL_refuses 10 = .ok (.if_icmp .ge 1425, 3) := by decide +kernel
theorem dL_refuses_13 : decode cL_refuses 13 = .ok (.iload 6, 2) := by decide +kernel
theorem dL_refuses_15 : decode cL_refuses 15 = .ok (.ifCond .ne 7, 3) := by decide +kernel
theorem dL_refuses_18 : decode cL_refuses 18 = .ok (.iconst (-1), 1) := by decide +kernel
theorem dL_refuses_19 : decode cL_refuses 19 = .ok (.goto 19, 3) := by decide +kernel
theorem dL_refuses_22 : decode cL_refuses 22 = .ok (.iload 6, 2) := by decide +kernel
theorem dL_refuses_24 : decode cL_refuses 24 = .ok (.iconst 2, 1) := by decide +kernel
theorem dL_refuses_25 : decode cL_refuses 25 = .ok (.if_icmp .ne 8, 3) := by decide +kernel
theorem dL_refuses_28 : decode cL_refuses 28 = .ok (.iload 5, 2) := by decide +kernel
theorem dL_refuses_30 : decode cL_refuses 30 = .ok (.goto 8, 3) := by decide +kernel
theorem dL_refuses_33 : decode cL_refuses 33 = .ok (.iload 5, 2) := by decide +kernel
theorem dL_refuses_35 : decode cL_refuses 35 = .ok (.ineg, 1) := by decide +kernel
theorem dL_refuses_36 : decode cL_refuses 36 = .ok (.iconst 1, 1) := by decide +kernel
theorem dL_refuses_37 : decode cL_refuses 37 = .ok (.isub, 1) := by decide +kernel
theorem dL_refuses_38 : decode cL_refuses 38 = .ok (.istore 7, 2) := by decide +kernel
theorem dL_refuses_40 : decode cL_refuses 40 = .ok (.iload 6, 2) := by decide +kernel
theorem dL_refuses_42 : decode cL_refuses 42 = .ok (.iconst 2, 1) := by decide +kernel
theorem dL_refuses_43 : decode cL_refuses 43 = .ok (.if_icmp .ne 7, 3) := by decide +kernel
theorem dL_refuses_46 : decode cL_refuses 46 = .ok (.iconst (-1), 1) := by decide +kernel
theorem dL_refuses_47 : decode cL_refuses 47 = .ok (.goto 19, 3) := by decide +kernel
theorem dL_refuses_50 : decode cL_refuses 50 = .ok (.iload 6, 2) := by decide +kernel
theorem dL_refuses_52 : decode cL_refuses 52 = .ok (.iconst 1, 1) := by decide +kernel
theorem dL_refuses_53 : decode cL_refuses 53 = .ok (.if_icmp .ne 8, 3) := by decide +kernel
theorem dL_refuses_56 : decode cL_refuses 56 = .ok (.bipush (-2), 2) := by decide +kernel
theorem dL_refuses_58 : decode cL_refuses 58 = .ok (.goto 8, 3) := by decide +kernel
theorem dL_refuses_61 : decode cL_refuses 61 = .ok (.iload 5, 2) := by decide +kernel
theorem dL_refuses_63 : decode cL_refuses 63 = .ok (.ineg, 1) := by decide +kernel
theorem dL_refuses_64 : decode cL_refuses 64 = .ok (.iconst 1, 1) := by decide +kernel
theorem dL_refuses_65 : decode cL_refuses 65 = .ok (.isub, 1) := by decide +kernel
theorem dL_refuses_66 : decode cL_refuses 66 = .ok (.istore 8, 2) := by decide +kernel
theorem dL_refuses_68 : decode cL_refuses 68 = .ok (.iload 6, 2) := by decide +kernel
theorem dL_refuses_70 : decode cL_refuses 70 = .ok (.iconst 1, 1) := by decide +kernel
theorem dL_refuses_71 : decode cL_refuses 71 = .ok (.if_icmp .ne 7, 3) := by decide +kernel
theorem dL_refuses_74 : decode cL_refuses 74 = .ok (.iload_n 1, 1) := by decide +kernel
theorem dL_refuses_75 : decode cL_refuses 75 = .ok (.goto 5, 3) := by decide +kernel
theorem dL_refuses_78 : decode cL_refuses 78 = .ok (.iload 7, 2) := by decide +kernel
theorem dL_refuses_80 : decode cL_refuses 80 = .ok (.istore 9, 2) := by decide +kernel
theorem dL_refuses_82 : decode cL_refuses 82 = .ok (.iload 6, 2) := by decide +kernel
theorem dL_refuses_84 : decode cL_refuses 84 = .ok (.iconst 1, 1) := by decide +kernel
theorem dL_refuses_85 : decode cL_refuses 85 = .ok (.if_icmp .ne 7, 3) := by decide +kernel
theorem dL_refuses_88 : decode cL_refuses 88 = .ok (.iload_n 2, 1) := by decide +kernel
theorem dL_refuses_89 : decode cL_refuses 89 = .ok (.goto 5, 3) := by decide +kernel
theorem dL_refuses_92 : decode cL_refuses 92 = .ok (.iload 7, 2) := by decide +kernel
theorem dL_refuses_94 : decode cL_refuses 94 = .ok (.istore 10, 2) := by decide +kernel
theorem dL_refuses_96 : decode cL_refuses 96 = .ok (.iload 6, 2) := by decide +kernel
theorem dL_refuses_98 : decode cL_refuses 98 = .ok (.iconst 1, 1) := by decide +kernel
theorem dL_refuses_99 : decode cL_refuses 99 = .ok (.if_icmp .ne 7, 3) := by decide +kernel
theorem dL_refuses_102 : decode cL_refuses 102 = .ok (.iload_n 3, 1) := by decide +kernel
theorem dL_refuses_103 : decode cL_refuses 103 = .ok (.goto 5, 3) := by decide +kernel
theorem dL_refuses_106 : decode cL_refuses 106 = .ok (.iload 7, 2) := by decide +kernel
theorem dL_refuses_108 : decode cL_refuses 108 = .ok (.istore 11, 2) := by decide +kernel
theorem dL_refuses_110 : decode cL_refuses 110 = .ok (.iload 6, 2) := by decide +kernel
theorem dL_refuses_112 : decode cL_refuses 112 = .ok (.iconst 1, 1) := by decide +kernel
theorem dL_refuses_113 : decode cL_refuses 113 = .ok (.if_icmp .ne 8, 3) := by decide +kernel
theorem dL_refuses_116 : decode cL_refuses 116 = .ok (.iload 4, 2) := by decide +kernel
theorem dL_refuses_118 : decode cL_refuses 118 = .ok (.goto 5, 3) := by decide +kernel
theorem dL_refuses_121 : decode cL_refuses 121 = .ok (.iload 7, 2) := by decide +kernel
theorem dL_refuses_123 : decode cL_refuses 123 = .ok (.istore 12, 2) := by decide +kernel
theorem dL_refuses_125 : decode cL_refuses 125 = .ok (.aload_n 0, 1) := by decide +kernel
theorem dL_refuses_126 : decode cL_refuses 126 = .ok (.iload 6, 2) := by decide +kernel
theorem dL_refuses_128 : decode cL_refuses 128 = .ok (.iconst 1, 1) := by decide +kernel
theorem dL_refuses_129 : decode cL_refuses 129 = .ok (.if_icmp .ne 8, 3) := by decide +kernel
theorem dL_refuses_132 : decode cL_refuses 132 = .ok (.bipush 8, 2) := by decide +kernel
theorem dL_refuses_134 : decode cL_refuses 134 = .ok (.goto 5, 3) := by decide +kernel
theorem dL_refuses_137 : decode cL_refuses 137 = .ok (.iload 7, 2) := by decide +kernel
theorem dL_refuses_139 : decode cL_refuses 139 = .ok (.iconst 0, 1) := by decide +kernel
theorem dL_refuses_140 : decode cL_refuses 140 = .ok (.iconst 0, 1) := by decide +kernel
theorem dL_refuses_141 : decode cL_refuses 141 = .ok (.iconst 0, 1) := by decide +kernel
theorem dL_refuses_142 : decode cL_refuses 142 = .ok (.iconst 0, 1) := by decide +kernel
theorem dL_refuses_143 : decode cL_refuses 143 = .ok (.iconst 0, 1) := by decide +kernel
theorem dL_refuses_144 : decode cL_refuses 144 = .ok (.iconst 0, 1) := by decide +kernel
theorem dL_refuses_145 : decode cL_refuses 145 = .ok (.invokestatic 85, 3) := by decide +kernel
theorem dL_refuses_148 : decode cL_refuses 148 = .ok (.bipush (-72), 2) := by decide +kernel
theorem dL_refuses_150 : decode cL_refuses 150 = .ok (.if_icmp .ne 181, 3) := by decide +kernel
theorem dL_refuses_153 : decode cL_refuses 153 = .ok (.aload_n 0, 1) := by decide +kernel
theorem dL_refuses_154 : decode cL_refuses 154 = .ok (.iconst 0, 1) := by decide +kernel
theorem dL_refuses_155 : decode cL_refuses 155 = .ok (.iload 6, 2) := by decide +kernel
theorem dL_refuses_157 : decode cL_refuses 157 = .ok (.iconst 1, 1) := by decide +kernel
theorem dL_refuses_158 : decode cL_refuses 158 = .ok (.if_icmp .ne 8, 3) := by decide +kernel
theorem dL_refuses_161 : decode cL_refuses 161 = .ok (.bipush 9, 2) := by decide +kernel
theorem dL_refuses_163 : decode cL_refuses 163 = .ok (.goto 5, 3) := by decide +kernel
theorem dL_refuses_166 : decode cL_refuses 166 = .ok (.iload 7, 2) := by decide +kernel
theorem dL_refuses_168 : decode cL_refuses 168 = .ok (.iconst 0, 1) := by decide +kernel
theorem dL_refuses_169 : decode cL_refuses 169 = .ok (.iconst 0, 1) := by decide +kernel
theorem dL_refuses_170 : decode cL_refuses 170 = .ok (.iconst 0, 1) := by decide +kernel
theorem dL_refuses_171 : decode cL_refuses 171 = .ok (.iconst 0, 1) := by decide +kernel
theorem dL_refuses_172 : decode cL_refuses 172 = .ok (.iconst 0, 1) := by decide +kernel
theorem dL_refuses_173 : decode cL_refuses 173 = .ok (.invokestatic 85, 3) := by decide +kernel
theorem dL_refuses_176 : decode cL_refuses 176 = .ok (.bipush (-72), 2) := by decide +kernel
theorem dL_refuses_178 : decode cL_refuses 178 = .ok (.if_icmp .ne 153, 3) := by decide +kernel
theorem dL_refuses_181 : decode cL_refuses 181 = .ok (.aload_n 0, 1) := by decide +kernel
theorem dL_refuses_182 : decode cL_refuses 182 = .ok (.iconst 0, 1) := by decide +kernel
theorem dL_refuses_183 : decode cL_refuses 183 = .ok (.iconst 0, 1) := by decide +kernel
theorem dL_refuses_184 : decode cL_refuses 184 = .ok (.iload 6, 2) := by decide +kernel
theorem dL_refuses_186 : decode cL_refuses 186 = .ok (.iconst 1, 1) := by decide +kernel
theorem dL_refuses_187 : decode cL_refuses 187 = .ok (.if_icmp .ne 8, 3) := by decide +kernel
theorem dL_refuses_190 : decode cL_refuses 190 = .ok (.bipush 9, 2) := by decide +kernel
theorem dL_refuses_192 : decode cL_refuses 192 = .ok (.goto 5, 3) := by decide +kernel
theorem dL_refuses_195 : decode cL_refuses 195 = .ok (.iload 7, 2) := by decide +kernel
theorem dL_refuses_197 : decode cL_refuses 197 = .ok (.iconst 0, 1) := by decide +kernel
theorem dL_refuses_198 : decode cL_refuses 198 = .ok (.iconst 0, 1) := by decide +kernel
theorem dL_refuses_199 : decode cL_refuses 199 = .ok (.iconst 0, 1) := by decide +kernel
theorem dL_refuses_200 : decode cL_refuses 200 = .ok (.iconst 0, 1) := by decide +kernel
theorem dL_refuses_201 : decode cL_refuses 201 = .ok (.invokestatic 85, 3) := by decide +kernel
theorem dL_refuses_204 : decode cL_refuses 204 = .ok (.bipush (-72), 2) := by decide +kernel
theorem dL_refuses_206 : decode cL_refuses 206 = .ok (.if_icmp .ne 125, 3) := by decide +kernel
theorem dL_refuses_209 : decode cL_refuses 209 = .ok (.aload_n 0, 1) := by decide +kernel
theorem dL_refuses_210 : decode cL_refuses 210 = .ok (.iconst 0, 1) := by decide +kernel
theorem dL_refuses_211 : decode cL_refuses 211 = .ok (.iconst 0, 1) := by decide +kernel
theorem dL_refuses_212 : decode cL_refuses 212 = .ok (.iconst 0, 1) := by decide +kernel
theorem dL_refuses_213 : decode cL_refuses 213 = .ok (.iload 6, 2) := by decide +kernel
theorem dL_refuses_215 : decode cL_refuses 215 = .ok (.iconst 1, 1) := by decide +kernel
theorem dL_refuses_216 : decode cL_refuses 216 = .ok (.if_icmp .ne 7, 3) := by decide +kernel
theorem dL_refuses_219 : decode cL_refuses 219 = .ok (.iconst 4, 1) := by decide +kernel
theorem dL_refuses_220 : decode cL_refuses 220 = .ok (.goto 5, 3) := by decide +kernel
theorem dL_refuses_223 : decode cL_refuses 223 = .ok (.iload 7, 2) := by decide +kernel
theorem dL_refuses_225 : decode cL_refuses 225 = .ok (.iconst 0, 1) := by decide +kernel
theorem dL_refuses_226 : decode cL_refuses 226 = .ok (.iconst 0, 1) := by decide +kernel
theorem dL_refuses_227 : decode cL_refuses 227 = .ok (.iconst 0, 1) := by decide +kernel
theorem dL_refuses_228 : decode cL_refuses 228 = .ok (.invokestatic 85, 3) := by decide +kernel
theorem dL_refuses_231 : decode cL_refuses 231 = .ok (.bipush (-72), 2) := by decide +kernel
theorem dL_refuses_233 : decode cL_refuses 233 = .ok (.if_icmp .ne 98, 3) := by decide +kernel
theorem dL_refuses_236 : decode cL_refuses 236 = .ok (.aload_n 0, 1) := by decide +kernel
theorem dL_refuses_237 : decode cL_refuses 237 = .ok (.iconst 0, 1) := by decide +kernel
theorem dL_refuses_238 : decode cL_refuses 238 = .ok (.iconst 0, 1) := by decide +kernel
theorem dL_refuses_239 : decode cL_refuses 239 = .ok (.iconst 0, 1) := by decide +kernel
theorem dL_refuses_240 : decode cL_refuses 240 = .ok (.iconst 0, 1) := by decide +kernel
theorem dL_refuses_241 : decode cL_refuses 241 = .ok (.iload 6, 2) := by decide +kernel
theorem dL_refuses_243 : decode cL_refuses 243 = .ok (.iconst 1, 1) := by decide +kernel
theorem dL_refuses_244 : decode cL_refuses 244 = .ok (.if_icmp .ne 7, 3) := by decide +kernel
theorem dL_refuses_247 : decode cL_refuses 247 = .ok (.iconst 4, 1) := by decide +kernel
theorem dL_refuses_248 : decode cL_refuses 248 = .ok (.goto 5, 3) := by decide +kernel
theorem dL_refuses_251 : decode cL_refuses 251 = .ok (.iload 7, 2) := by decide +kernel
theorem dL_refuses_253 : decode cL_refuses 253 = .ok (.iconst 0, 1) := by decide +kernel
theorem dL_refuses_254 : decode cL_refuses 254 = .ok (.iconst 0, 1) := by decide +kernel
theorem dL_refuses_255 : decode cL_refuses 255 = .ok (.invokestatic 85, 3) := by decide +kernel
theorem dL_refuses_258 : decode cL_refuses 258 = .ok (.bipush (-72), 2) := by decide +kernel
theorem dL_refuses_260 : decode cL_refuses 260 = .ok (.if_icmp .ne 71, 3) := by decide +kernel
theorem dL_refuses_263 : decode cL_refuses 263 = .ok (.aload_n 0, 1) := by decide +kernel
theorem dL_refuses_264 : decode cL_refuses 264 = .ok (.iconst 0, 1) := by decide +kernel
theorem dL_refuses_265 : decode cL_refuses 265 = .ok (.iconst 0, 1) := by decide +kernel
theorem dL_refuses_266 : decode cL_refuses 266 = .ok (.iconst 0, 1) := by decide +kernel
theorem dL_refuses_267 : decode cL_refuses 267 = .ok (.iconst 0, 1) := by decide +kernel
theorem dL_refuses_268 : decode cL_refuses 268 = .ok (.iconst 0, 1) := by decide +kernel
theorem dL_refuses_269 : decode cL_refuses 269 = .ok (.iload 6, 2) := by decide +kernel
theorem dL_refuses_271 : decode cL_refuses 271 = .ok (.iconst 1, 1) := by decide +kernel
theorem dL_refuses_272 : decode cL_refuses 272 = .ok (.if_icmp .ne 7, 3) := by decide +kernel
theorem dL_refuses_275 : decode cL_refuses 275 = .ok (.iconst 3, 1) := by decide +kernel
theorem dL_refuses_276 : decode cL_refuses 276 = .ok (.goto 5, 3) := by decide +kernel
theorem dL_refuses_279 : decode cL_refuses 279 = .ok (.iload 7, 2) := by decide +kernel
theorem dL_refuses_281 : decode cL_refuses 281 = .ok (.iconst 0, 1) := by decide +kernel
theorem dL_refuses_282 : decode cL_refuses 282 = .ok (.invokestatic 85, 3) := by decide +kernel
theorem dL_refuses_285 : decode cL_refuses 285 = .ok (.bipush (-72), 2) := by decide +kernel
theorem dL_refuses_287 : decode cL_refuses 287 = .ok (.if_icmp .ne 44, 3) := by decide +kernel
theorem dL_refuses_290 : decode cL_refuses 290 = .ok (.aload_n 0, 1) := by decide +kernel
theorem dL_refuses_291 : decode cL_refuses 291 = .ok (.iconst 5, 1) := by decide +kernel
theorem dL_refuses_292 : decode cL_refuses 292 = .ok (.iconst 0, 1) := by decide +kernel
theorem dL_refuses_293 : decode cL_refuses 293 = .ok (.iconst 0, 1) := by decide +kernel
theorem dL_refuses_294 : decode cL_refuses 294 = .ok (.iconst 0, 1) := by decide +kernel
theorem dL_refuses_295 : decode cL_refuses 295 = .ok (.iconst 0, 1) := by decide +kernel
theorem dL_refuses_296 : decode cL_refuses 296 = .ok (.iconst 2, 1) := by decide +kernel
theorem dL_refuses_297 : decode cL_refuses 297 = .ok (.iload 6, 2) := by decide +kernel
theorem dL_refuses_299 : decode cL_refuses 299 = .ok (.ifCond .ne 7, 3) := by decide +kernel
theorem dL_refuses_302 : decode cL_refuses 302 = .ok (.iconst 4, 1) := by decide +kernel
theorem dL_refuses_303 : decode cL_refuses 303 = .ok (.goto 16, 3) := by decide +kernel
theorem dL_refuses_306 : decode cL_refuses 306 = .ok (.iload 6, 2) := by decide +kernel
theorem dL_refuses_308 : decode cL_refuses 308 = .ok (.iconst 1, 1) := by decide +kernel
theorem dL_refuses_309 : decode cL_refuses 309 = .ok (.if_icmp .ne 8, 3) := by decide +kernel
theorem dL_refuses_312 : decode cL_refuses 312 = .ok (.bipush 8, 2) := by decide +kernel
theorem dL_refuses_314 : decode cL_refuses 314 = .ok (.goto 5, 3) := by decide +kernel
theorem dL_refuses_317 : decode cL_refuses 317 = .ok (.iload 7, 2) := by decide +kernel
theorem dL_refuses_319 : decode cL_refuses 319 = .ok (.invokestatic 85, 3) := by decide +kernel
theorem dL_refuses_322 : decode cL_refuses 322 = .ok (.bipush (-72), 2) := by decide +kernel
theorem dL_refuses_324 : decode cL_refuses 324 = .ok (.if_icmp .ne 7, 3) := by decide +kernel
theorem dL_refuses_327 : decode cL_refuses 327 = .ok (.iconst 1, 1) := by decide +kernel
theorem dL_refuses_328 : decode cL_refuses 328 = .ok (.goto 4, 3) := by decide +kernel
theorem dL_refuses_331 : decode cL_refuses 331 = .ok (.iconst 0, 1) := by decide +kernel
theorem dL_refuses_332 : decode cL_refuses 332 = .ok (.istore 13, 2) := by decide +kernel
theorem dL_refuses_334 : decode cL_refuses 334 = .ok (.iload 13, 2) := by decide +kernel
theorem dL_refuses_336 : decode cL_refuses 336 = .ok (.ifCond .eq 549, 3) := by decide +kernel
theorem dL_refuses_339 : decode cL_refuses 339 = .ok (.aload_n 0, 1) := by decide +kernel
theorem dL_refuses_340 : decode cL_refuses 340 = .ok (.iconst 0, 1) := by decide +kernel
theorem dL_refuses_341 : decode cL_refuses 341 = .ok (.iload 9, 2) := by decide +kernel
theorem dL_refuses_343 : decode cL_refuses 343 = .ok (.bipush 9, 2) := by decide +kernel
theorem dL_refuses_345 : decode cL_refuses 345 = .ok (.iconst 0, 1) := by decide +kernel
theorem dL_refuses_346 : decode cL_refuses 346 = .ok (.iconst 0, 1) := by decide +kernel
theorem dL_refuses_347 : decode cL_refuses 347 = .ok (.invokestatic 90, 3) := by decide +kernel
theorem dL_refuses_350 : decode cL_refuses 350 = .ok (.bipush (-71), 2) := by decide +kernel
theorem dL_refuses_352 : decode cL_refuses 352 = .ok (.if_icmp .ne 533, 3) := by decide +kernel
theorem dL_refuses_355 : decode cL_refuses 355 = .ok (.aload_n 0, 1) := by decide +kernel
theorem dL_refuses_356 : decode cL_refuses 356 = .ok (.iconst 1, 1) := by decide +kernel
theorem dL_refuses_357 : decode cL_refuses 357 = .ok (.iload 9, 2) := by decide +kernel
theorem dL_refuses_359 : decode cL_refuses 359 = .ok (.bipush 9, 2) := by decide +kernel
theorem dL_refuses_361 : decode cL_refuses 361 = .ok (.iconst 0, 1) := by decide +kernel
theorem dL_refuses_362 : decode cL_refuses 362 = .ok (.iconst 0, 1) := by decide +kernel
theorem dL_refuses_363 : decode cL_refuses 363 = .ok (.invokestatic 90, 3) := by decide +kernel
theorem dL_refuses_366 : decode cL_refuses 366 = .ok (.bipush (-71), 2) := by decide +kernel
theorem dL_refuses_368 : decode cL_refuses 368 = .ok (.if_icmp .ne 517, 3) := by decide +kernel
theorem dL_refuses_371 : decode cL_refuses 371 = .ok (.aload_n 0, 1) := by decide +kernel
theorem dL_refuses_372 : decode cL_refuses 372 = .ok (.iconst 2, 1) := by decide +kernel
theorem dL_refuses_373 : decode cL_refuses 373 = .ok (.iload 6, 2) := by decide +kernel
theorem dL_refuses_375 : decode cL_refuses 375 = .ok (.iconst 1, 1) := by decide +kernel
theorem dL_refuses_376 : decode cL_refuses 376 = .ok (.if_icmp .ne 7, 3) := by decide +kernel
theorem dL_refuses_379 : decode cL_refuses 379 = .ok (.iconst 3, 1) := by decide +kernel
theorem dL_refuses_380 : decode cL_refuses 380 = .ok (.goto 5, 3) := by decide +kernel
theorem dL_refuses_383 : decode cL_refuses 383 = .ok (.iload 7, 2) := by decide +kernel
theorem dL_refuses_385 : decode cL_refuses 385 = .ok (.iconst 0, 1) := by decide +kernel
theorem dL_refuses_386 : decode cL_refuses 386 = .ok (.iconst 0, 1) := by decide +kernel
theorem dL_refuses_387 : decode cL_refuses 387 = .ok (.iconst 0, 1) := by decide +kernel
theorem dL_refuses_388 : decode cL_refuses 388 = .ok (.invokestatic 90, 3) := by decide +kernel
theorem dL_refuses_391 : decode cL_refuses 391 = .ok (.bipush (-72), 2) := by decide +kernel
theorem dL_refuses_393 : decode cL_refuses 393 = .ok (.if_icmp .ne 492, 3) := by decide +kernel
theorem dL_refuses_396 : decode cL_refuses 396 = .ok (.aload_n 0, 1) := by decide +kernel
theorem dL_refuses_397 : decode cL_refuses 397 = .ok (.iconst 2, 1) := by decide +kernel
theorem dL_refuses_398 : decode cL_refuses 398 = .ok (.iconst 0, 1) := by decide +kernel
theorem dL_refuses_399 : decode cL_refuses 399 = .ok (.iload 6, 2) := by decide +kernel
theorem dL_refuses_401 : decode cL_refuses 401 = .ok (.iconst 1, 1) := by decide +kernel
theorem dL_refuses_402 : decode cL_refuses 402 = .ok (.if_icmp .ne 7, 3) := by decide +kernel
theorem dL_refuses_405 : decode cL_refuses 405 = .ok (.iconst 3, 1) := by decide +kernel
theorem dL_refuses_406 : decode cL_refuses 406 = .ok (.goto 5, 3) := by decide +kernel
theorem dL_refuses_409 : decode cL_refuses 409 = .ok (.iload 7, 2) := by decide +kernel
theorem dL_refuses_411 : decode cL_refuses 411 = .ok (.iconst 0, 1) := by decide +kernel
theorem dL_refuses_412 : decode cL_refuses 412 = .ok (.iconst 0, 1) := by decide +kernel
theorem dL_refuses_413 : decode cL_refuses 413 = .ok (.invokestatic 90, 3) := by decide +kernel
theorem dL_refuses_416 : decode cL_refuses 416 = .ok (.bipush (-72), 2) := by decide +kernel
theorem dL_refuses_418 : decode cL_refuses 418 = .ok (.if_icmp .ne 467, 3) := by decide +kernel
theorem dL_refuses_421 : decode cL_refuses 421 = .ok (.aload_n 0, 1) := by decide +kernel
theorem dL_refuses_422 : decode cL_refuses 422 = .ok (.iconst 3, 1) := by decide +kernel
theorem dL_refuses_423 : decode cL_refuses 423 = .ok (.iload 6, 2) := by decide +kernel
theorem dL_refuses_425 : decode cL_refuses 425 = .ok (.iconst 1, 1) := by decide +kernel
theorem dL_refuses_426 : decode cL_refuses 426 = .ok (.if_icmp .ne 8, 3) := by decide +kernel
theorem dL_refuses_429 : decode cL_refuses 429 = .ok (.bipush 6, 2) := by decide +kernel
theorem dL_refuses_431 : decode cL_refuses 431 = .ok (.goto 5, 3) := by decide +kernel
theorem dL_refuses_434 : decode cL_refuses 434 = .ok (.iload 7, 2) := by decide +kernel
theorem dL_refuses_436 : decode cL_refuses 436 = .ok (.iconst 0, 1) := by decide +kernel
theorem dL_refuses_437 : decode cL_refuses 437 = .ok (.iconst 0, 1) := by decide +kernel
theorem dL_refuses_438 : decode cL_refuses 438 = .ok (.iconst 0, 1) := by decide +kernel
theorem dL_refuses_439 : decode cL_refuses 439 = .ok (.invokestatic 90, 3) := by decide +kernel
theorem dL_refuses_442 : decode cL_refuses 442 = .ok (.bipush (-72), 2) := by decide +kernel
theorem dL_refuses_444 : decode cL_refuses 444 = .ok (.if_icmp .ne 441, 3) := by decide +kernel
theorem dL_refuses_447 : decode cL_refuses 447 = .ok (.aload_n 0, 1) := by decide +kernel
theorem dL_refuses_448 : decode cL_refuses 448 = .ok (.iconst 3, 1) := by decide +kernel
theorem dL_refuses_449 : decode cL_refuses 449 = .ok (.iconst 0, 1) := by decide +kernel
theorem dL_refuses_450 : decode cL_refuses 450 = .ok (.iload 9, 2) := by decide +kernel
theorem dL_refuses_452 : decode cL_refuses 452 = .ok (.iconst 0, 1) := by decide +kernel
theorem dL_refuses_453 : decode cL_refuses 453 = .ok (.iconst 0, 1) := by decide +kernel
theorem dL_refuses_454 : decode cL_refuses 454 = .ok (.invokestatic 90, 3) := by decide +kernel
theorem dL_refuses_457 : decode cL_refuses 457 = .ok (.bipush (-71), 2) := by decide +kernel
theorem dL_refuses_459 : decode cL_refuses 459 = .ok (.if_icmp .ne 426, 3) := by decide +kernel
theorem dL_refuses_462 : decode cL_refuses 462 = .ok (.aload_n 0, 1) := by decide +kernel
theorem dL_refuses_463 : decode cL_refuses 463 = .ok (.iconst 3, 1) := by decide +kernel
theorem dL_refuses_464 : decode cL_refuses 464 = .ok (.iconst 1, 1) := by decide +kernel
theorem dL_refuses_465 : decode cL_refuses 465 = .ok (.iload 6, 2) := by decide +kernel
theorem dL_refuses_467 : decode cL_refuses 467 = .ok (.iconst 1, 1) := by decide +kernel
theorem dL_refuses_468 : decode cL_refuses 468 = .ok (.if_icmp .ne 7, 3) := by decide +kernel
theorem dL_refuses_471 : decode cL_refuses 471 = .ok (.iconst 4, 1) := by decide +kernel
theorem dL_refuses_472 : decode cL_refuses 472 = .ok (.goto 5, 3) := by decide +kernel
theorem dL_refuses_475 : decode cL_refuses 475 = .ok (.iload 7, 2) := by decide +kernel
theorem dL_refuses_477 : decode cL_refuses 477 = .ok (.bipush 99, 2) := by decide +kernel
theorem dL_refuses_479 : decode cL_refuses 479 = .ok (.iconst 0, 1) := by decide +kernel
theorem dL_refuses_480 : decode cL_refuses 480 = .ok (.invokestatic 90, 3) := by decide +kernel
theorem dL_refuses_483 : decode cL_refuses 483 = .ok (.bipush (-71), 2) := by decide +kernel
theorem dL_refuses_485 : decode cL_refuses 485 = .ok (.if_icmp .ne 400, 3) := by decide +kernel
theorem dL_refuses_488 : decode cL_refuses 488 = .ok (.aload_n 0, 1) := by decide +kernel
theorem dL_refuses_489 : decode cL_refuses 489 = .ok (.iconst 3, 1) := by decide +kernel
theorem dL_refuses_490 : decode cL_refuses 490 = .ok (.iconst 1, 1) := by decide +kernel
theorem dL_refuses_491 : decode cL_refuses 491 = .ok (.iconst 0, 1) := by decide +kernel
theorem dL_refuses_492 : decode cL_refuses 492 = .ok (.iload 6, 2) := by decide +kernel
theorem dL_refuses_494 : decode cL_refuses 494 = .ok (.iconst 1, 1) := by decide +kernel
theorem dL_refuses_495 : decode cL_refuses 495 = .ok (.if_icmp .ne 8, 3) := by decide +kernel
theorem dL_refuses_498 : decode cL_refuses 498 = .ok (.bipush 10, 2) := by decide +kernel
theorem dL_refuses_500 : decode cL_refuses 500 = .ok (.goto 5, 3) := by decide +kernel
theorem dL_refuses_503 : decode cL_refuses 503 = .ok (.iload 7, 2) := by decide +kernel
theorem dL_refuses_505 : decode cL_refuses 505 = .ok (.iconst 0, 1) := by decide +kernel
theorem dL_refuses_506 : decode cL_refuses 506 = .ok (.invokestatic 90, 3) := by decide +kernel
theorem dL_refuses_509 : decode cL_refuses 509 = .ok (.bipush (-72), 2) := by decide +kernel
theorem dL_refuses_511 : decode cL_refuses 511 = .ok (.if_icmp .ne 374, 3) := by decide +kernel
theorem dL_refuses_514 : decode cL_refuses 514 = .ok (.aload_n 0, 1) := by decide +kernel
theorem dL_refuses_515 : decode cL_refuses 515 = .ok (.iconst 3, 1) := by decide +kernel
theorem dL_refuses_516 : decode cL_refuses 516 = .ok (.iconst 2, 1) := by decide +kernel
theorem dL_refuses_517 : decode cL_refuses 517 = .ok (.iload 6, 2) := by decide +kernel
theorem dL_refuses_519 : decode cL_refuses 519 = .ok (.iconst 1, 1) := by decide +kernel
theorem dL_refuses_520 : decode cL_refuses 520 = .ok (.if_icmp .ne 7, 3) := by decide +kernel
theorem dL_refuses_523 : decode cL_refuses 523 = .ok (.iconst 4, 1) := by decide +kernel
theorem dL_refuses_524 : decode cL_refuses 524 = .ok (.goto 5, 3) := by decide +kernel
theorem dL_refuses_527 : decode cL_refuses 527 = .ok (.iload 7, 2) := by decide +kernel
theorem dL_refuses_529 : decode cL_refuses 529 = .ok (.iconst 0, 1) := by decide +kernel
theorem dL_refuses_530 : decode cL_refuses 530 = .ok (.iconst 0, 1) := by decide +kernel
theorem dL_refuses_531 : decode cL_refuses 531 = .ok (.invokestatic 90, 3) := by decide +kernel
theorem dL_refuses_534 : decode cL_refuses 534 = .ok (.bipush (-71), 2) := by decide +kernel
theorem dL_refuses_536 : decode cL_refuses 536 = .ok (.if_icmp .ne 349, 3) := by decide +kernel
theorem dL_refuses_539 : decode cL_refuses 539 = .ok (.aload_n 0, 1) := by decide +kernel
theorem dL_refuses_540 : decode cL_refuses 540 = .ok (.iconst 3, 1) := by decide +kernel
theorem dL_refuses_541 : decode cL_refuses 541 = .ok (.iconst 3, 1) := by decide +kernel
theorem dL_refuses_542 : decode cL_refuses 542 = .ok (.iload 6, 2) := by decide +kernel
theorem dL_refuses_544 : decode cL_refuses 544 = .ok (.iconst 1, 1) := by decide +kernel
theorem dL_refuses_545 : decode cL_refuses 545 = .ok (.if_icmp .ne 7, 3) := by decide +kernel
theorem dL_refuses_548 : decode cL_refuses 548 = .ok (.iconst 4, 1) := by decide +kernel
theorem dL_refuses_549 : decode cL_refuses 549 = .ok (.goto 5, 3) := by decide +kernel
theorem dL_refuses_552 : decode cL_refuses 552 = .ok (.iload 7, 2) := by decide +kernel
theorem dL_refuses_554 : decode cL_refuses 554 = .ok (.iconst 0, 1) := by decide +kernel
theorem dL_refuses_555 : decode cL_refuses 555 = .ok (.iconst 0, 1) := by decide +kernel
theorem dL_refuses_556 : decode cL_refuses 556 = .ok (.invokestatic 90, 3) := by decide +kernel
theorem dL_refuses_559 : decode cL_refuses 559 = .ok (.bipush (-71), 2) := by decide +kernel
theorem dL_refuses_561 : decode cL_refuses 561 = .ok (.if_icmp .ne 324, 3) := by decide +kernel
theorem dL_refuses_564 : decode cL_refuses 564 = .ok (.aload_n 0, 1) := by decide +kernel
theorem dL_refuses_565 : decode cL_refuses 565 = .ok (.iconst 3, 1) := by decide +kernel
theorem dL_refuses_566 : decode cL_refuses 566 = .ok (.iconst 4, 1) := by decide +kernel
theorem dL_refuses_567 : decode cL_refuses 567 = .ok (.iload 9, 2) := by decide +kernel
theorem dL_refuses_569 : decode cL_refuses 569 = .ok (.iconst 0, 1) := by decide +kernel
theorem dL_refuses_570 : decode cL_refuses 570 = .ok (.iconst 0, 1) := by decide +kernel
theorem dL_refuses_571 : decode cL_refuses 571 = .ok (.invokestatic 90, 3) := by decide +kernel
theorem dL_refuses_574 : decode cL_refuses 574 = .ok (.bipush (-71), 2) := by decide +kernel
theorem dL_refuses_576 : decode cL_refuses 576 = .ok (.if_icmp .ne 309, 3) := by decide +kernel
theorem dL_refuses_579 : decode cL_refuses 579 = .ok (.aload_n 0, 1) := by decide +kernel
theorem dL_refuses_580 : decode cL_refuses 580 = .ok (.iconst 3, 1) := by decide +kernel
theorem dL_refuses_581 : decode cL_refuses 581 = .ok (.iconst 4, 1) := by decide +kernel
theorem dL_refuses_582 : decode cL_refuses 582 = .ok (.iconst 0, 1) := by decide +kernel
theorem dL_refuses_583 : decode cL_refuses 583 = .ok (.iload 6, 2) := by decide +kernel
theorem dL_refuses_585 : decode cL_refuses 585 = .ok (.iconst 1, 1) := by decide +kernel
theorem dL_refuses_586 : decode cL_refuses 586 = .ok (.if_icmp .ne 7, 3) := by decide +kernel
theorem dL_refuses_589 : decode cL_refuses 589 = .ok (.iconst 4, 1) := by decide +kernel
theorem dL_refuses_590 : decode cL_refuses 590 = .ok (.goto 5, 3) := by decide +kernel
theorem dL_refuses_593 : decode cL_refuses 593 = .ok (.iload 7, 2) := by decide +kernel
theorem dL_refuses_595 : decode cL_refuses 595 = .ok (.iconst 1, 1) := by decide +kernel
theorem dL_refuses_596 : decode cL_refuses 596 = .ok (.invokestatic 90, 3) := by decide +kernel
theorem dL_refuses_599 : decode cL_refuses 599 = .ok (.bipush (-71), 2) := by decide +kernel
theorem dL_refuses_601 : decode cL_refuses 601 = .ok (.if_icmp .ne 284, 3) := by decide +kernel
theorem dL_refuses_604 : decode cL_refuses 604 = .ok (.aload_n 0, 1) := by decide +kernel
theorem dL_refuses_605 : decode cL_refuses 605 = .ok (.iconst 3, 1) := by decide +kernel
theorem dL_refuses_606 : decode cL_refuses 606 = .ok (.iconst 4, 1) := by decide +kernel
theorem dL_refuses_607 : decode cL_refuses 607 = .ok (.iconst 0, 1) := by decide +kernel
theorem dL_refuses_608 : decode cL_refuses 608 = .ok (.iconst 1, 1) := by decide +kernel
theorem dL_refuses_609 : decode cL_refuses 609 = .ok (.iload 6, 2) := by decide +kernel
theorem dL_refuses_611 : decode cL_refuses 611 = .ok (.iconst 1, 1) := by decide +kernel
theorem dL_refuses_612 : decode cL_refuses 612 = .ok (.if_icmp .ne 7, 3) := by decide +kernel
theorem dL_refuses_615 : decode cL_refuses 615 = .ok (.iconst 4, 1) := by decide +kernel
theorem dL_refuses_616 : decode cL_refuses 616 = .ok (.goto 5, 3) := by decide +kernel
theorem dL_refuses_619 : decode cL_refuses 619 = .ok (.iload 7, 2) := by decide +kernel
theorem dL_refuses_621 : decode cL_refuses 621 = .ok (.invokestatic 90, 3) := by decide +kernel
theorem dL_refuses_624 : decode cL_refuses 624 = .ok (.bipush (-71), 2) := by decide +kernel
theorem dL_refuses_626 : decode cL_refuses 626 = .ok (.if_icmp .ne 259, 3) := by decide +kernel
theorem dL_refuses_629 : decode cL_refuses 629 = .ok (.aload_n 0, 1) := by decide +kernel
theorem dL_refuses_630 : decode cL_refuses 630 = .ok (.iconst 3, 1) := by decide +kernel
theorem dL_refuses_631 : decode cL_refuses 631 = .ok (.iconst 5, 1) := by decide +kernel
theorem dL_refuses_632 : decode cL_refuses 632 = .ok (.iload 6, 2) := by decide +kernel
theorem dL_refuses_634 : decode cL_refuses 634 = .ok (.iconst 1, 1) := by decide +kernel
theorem dL_refuses_635 : decode cL_refuses 635 = .ok (.if_icmp .ne 8, 3) := by decide +kernel
theorem dL_refuses_638 : decode cL_refuses 638 = .ok (.bipush 26, 2) := by decide +kernel
theorem dL_refuses_640 : decode cL_refuses 640 = .ok (.goto 5, 3) := by decide +kernel
theorem dL_refuses_643 : decode cL_refuses 643 = .ok (.iload 7, 2) := by decide +kernel
theorem dL_refuses_645 : decode cL_refuses 645 = .ok (.iconst 0, 1) := by decide +kernel
theorem dL_refuses_646 : decode cL_refuses 646 = .ok (.iconst 0, 1) := by decide +kernel
theorem dL_refuses_647 : decode cL_refuses 647 = .ok (.invokestatic 90, 3) := by decide +kernel
theorem dL_refuses_650 : decode cL_refuses 650 = .ok (.bipush (-72), 2) := by decide +kernel
theorem dL_refuses_652 : decode cL_refuses 652 = .ok (.if_icmp .ne 233, 3) := by decide +kernel
theorem dL_refuses_655 : decode cL_refuses 655 = .ok (.aload_n 0, 1) := by decide +kernel
theorem dL_refuses_656 : decode cL_refuses 656 = .ok (.iconst 4, 1) := by decide +kernel
theorem dL_refuses_657 : decode cL_refuses 657 = .ok (.bipush 9, 2) := by decide +kernel
theorem dL_refuses_659 : decode cL_refuses 659 = .ok (.iload 10, 2) := by decide +kernel
theorem dL_refuses_661 : decode cL_refuses 661 = .ok (.iconst 0, 1) := by decide +kernel
theorem dL_refuses_662 : decode cL_refuses 662 = .ok (.iconst 0, 1) := by decide +kernel
theorem dL_refuses_663 : decode cL_refuses 663 = .ok (.invokestatic 90, 3) := by decide +kernel
theorem dL_refuses_666 : decode cL_refuses 666 = .ok (.bipush (-71), 2) := by decide +kernel
theorem dL_refuses_668 : decode cL_refuses 668 = .ok (.if_icmp .ne 217, 3) := by decide +kernel
theorem dL_refuses_671 : decode cL_refuses 671 = .ok (.aload_n 0, 1) := by decide +kernel
theorem dL_refuses_672 : decode cL_refuses 672 = .ok (.iconst 4, 1) := by decide +kernel
theorem dL_refuses_673 : decode cL_refuses 673 = .ok (.bipush 9, 2) := by decide +kernel
theorem dL_refuses_675 : decode cL_refuses 675 = .ok (.iconst 0, 1) := by decide +kernel
theorem dL_refuses_676 : decode cL_refuses 676 = .ok (.iload 10, 2) := by decide +kernel
theorem dL_refuses_678 : decode cL_refuses 678 = .ok (.iconst 0, 1) := by decide +kernel
theorem dL_refuses_679 : decode cL_refuses 679 = .ok (.invokestatic 90, 3) := by decide +kernel
theorem dL_refuses_682 : decode cL_refuses 682 = .ok (.bipush (-71), 2) := by decide +kernel
theorem dL_refuses_684 : decode cL_refuses 684 = .ok (.if_icmp .ne 201, 3) := by decide +kernel
theorem dL_refuses_687 : decode cL_refuses 687 = .ok (.aload_n 0, 1) := by decide +kernel
theorem dL_refuses_688 : decode cL_refuses 688 = .ok (.iconst 5, 1) := by decide +kernel
theorem dL_refuses_689 : decode cL_refuses 689 = .ok (.iload 10, 2) := by decide +kernel
theorem dL_refuses_691 : decode cL_refuses 691 = .ok (.bipush 9, 2) := by decide +kernel
theorem dL_refuses_693 : decode cL_refuses 693 = .ok (.iconst 0, 1) := by decide +kernel
theorem dL_refuses_694 : decode cL_refuses 694 = .ok (.iconst 0, 1) := by decide +kernel
theorem dL_refuses_695 : decode cL_refuses 695 = .ok (.invokestatic 90, 3) := by decide +kernel
theorem dL_refuses_698 : decode cL_refuses 698 = .ok (.bipush (-71), 2) := by decide +kernel
theorem dL_refuses_700 : decode cL_refuses 700 = .ok (.if_icmp .ne 185, 3) := by decide +kernel
theorem dL_refuses_703 : decode cL_refuses 703 = .ok (.aload_n 0, 1) := by decide +kernel
theorem dL_refuses_704 : decode cL_refuses 704 = .ok (.bipush 6, 2) := by decide +kernel
theorem dL_refuses_706 : decode cL_refuses 706 = .ok (.iload 10, 2) := by decide +kernel
theorem dL_refuses_708 : decode cL_refuses 708 = .ok (.iconst 0, 1) := by decide +kernel
theorem dL_refuses_709 : decode cL_refuses 709 = .ok (.iconst 0, 1) := by decide +kernel
theorem dL_refuses_710 : decode cL_refuses 710 = .ok (.iconst 0, 1) := by decide +kernel
theorem dL_refuses_711 : decode cL_refuses 711 = .ok (.invokestatic 90, 3) := by decide +kernel
theorem dL_refuses_714 : decode cL_refuses 714 = .ok (.bipush (-71), 2) := by decide +kernel
theorem dL_refuses_716 : decode cL_refuses 716 = .ok (.if_icmp .ne 169, 3) := by decide +kernel
theorem dL_refuses_719 : decode cL_refuses 719 = .ok (.aload_n 0, 1) := by decide +kernel
theorem dL_refuses_720 : decode cL_refuses 720 = .ok (.bipush 6, 2) := by decide +kernel
theorem dL_refuses_722 : decode cL_refuses 722 = .ok (.iconst 0, 1) := by decide +kernel
theorem dL_refuses_723 : decode cL_refuses 723 = .ok (.iload 6, 2) := by decide +kernel
theorem dL_refuses_725 : decode cL_refuses 725 = .ok (.iconst 1, 1) := by decide +kernel
theorem dL_refuses_726 : decode cL_refuses 726 = .ok (.if_icmp .ne 7, 3) := by decide +kernel
theorem dL_refuses_729 : decode cL_refuses 729 = .ok (.iconst 4, 1) := by decide +kernel
theorem dL_refuses_730 : decode cL_refuses 730 = .ok (.goto 5, 3) := by decide +kernel
theorem dL_refuses_733 : decode cL_refuses 733 = .ok (.iload 7, 2) := by decide +kernel
theorem dL_refuses_735 : decode cL_refuses 735 = .ok (.iconst 0, 1) := by decide +kernel
theorem dL_refuses_736 : decode cL_refuses 736 = .ok (.iconst 0, 1) := by decide +kernel
theorem dL_refuses_737 : decode cL_refuses 737 = .ok (.invokestatic 90, 3) := by decide +kernel
theorem dL_refuses_740 : decode cL_refuses 740 = .ok (.bipush (-71), 2) := by decide +kernel
theorem dL_refuses_742 : decode cL_refuses 742 = .ok (.if_icmp .ne 143, 3) := by decide +kernel
theorem dL_refuses_745 : decode cL_refuses 745 = .ok (.aload_n 0, 1) := by decide +kernel
theorem dL_refuses_746 : decode cL_refuses 746 = .ok (.bipush 7, 2) := by decide +kernel
theorem dL_refuses_748 : decode cL_refuses 748 = .ok (.iload 6, 2) := by decide +kernel
theorem dL_refuses_750 : decode cL_refuses 750 = .ok (.iconst 1, 1) := by decide +kernel
theorem dL_refuses_751 : decode cL_refuses 751 = .ok (.if_icmp .ne 7, 3) := by decide +kernel
theorem dL_refuses_754 : decode cL_refuses 754 = .ok (.iconst 5, 1) := by decide +kernel
theorem dL_refuses_755 : decode cL_refuses 755 = .ok (.goto 5, 3) := by decide +kernel
theorem dL_refuses_758 : decode cL_refuses 758 = .ok (.iload 7, 2) := by decide +kernel
theorem dL_refuses_760 : decode cL_refuses 760 = .ok (.iconst 0, 1) := by decide +kernel
theorem dL_refuses_761 : decode cL_refuses 761 = .ok (.iconst 0, 1) := by decide +kernel
theorem dL_refuses_762 : decode cL_refuses 762 = .ok (.iconst 0, 1) := by decide +kernel
theorem dL_refuses_763 : decode cL_refuses 763 = .ok (.invokestatic 90, 3) := by decide +kernel
theorem dL_refuses_766 : decode cL_refuses 766 = .ok (.bipush (-72), 2) := by decide +kernel
theorem dL_refuses_768 : decode cL_refuses 768 = .ok (.if_icmp .ne 117, 3) := by decide +kernel
theorem dL_refuses_771 : decode cL_refuses 771 = .ok (.aload_n 0, 1) := by decide +kernel
theorem dL_refuses_772 : decode cL_refuses 772 = .ok (.bipush 8, 2) := by decide +kernel
theorem dL_refuses_774 : decode cL_refuses 774 = .ok (.iload 11, 2) := by decide +kernel
theorem dL_refuses_776 : decode cL_refuses 776 = .ok (.iconst 0, 1) := by decide +kernel
theorem dL_refuses_777 : decode cL_refuses 777 = .ok (.iconst 0, 1) := by decide +kernel
theorem dL_refuses_778 : decode cL_refuses 778 = .ok (.iconst 0, 1) := by decide +kernel
theorem dL_refuses_779 : decode cL_refuses 779 = .ok (.invokestatic 90, 3) := by decide +kernel
theorem dL_refuses_782 : decode cL_refuses 782 = .ok (.bipush (-71), 2) := by decide +kernel
theorem dL_refuses_784 : decode cL_refuses 784 = .ok (.if_icmp .ne 101, 3) := by decide +kernel
theorem dL_refuses_787 : decode cL_refuses 787 = .ok (.aload_n 0, 1) := by decide +kernel
theorem dL_refuses_788 : decode cL_refuses 788 = .ok (.bipush 8, 2) := by decide +kernel
theorem dL_refuses_790 : decode cL_refuses 790 = .ok (.iconst 0, 1) := by decide +kernel
theorem dL_refuses_791 : decode cL_refuses 791 = .ok (.iload 9, 2) := by decide +kernel
theorem dL_refuses_793 : decode cL_refuses 793 = .ok (.iconst 0, 1) := by decide +kernel
theorem dL_refuses_794 : decode cL_refuses 794 = .ok (.iconst 0, 1) := by decide +kernel
theorem dL_refuses_795 : decode cL_refuses 795 = .ok (.invokestatic 90, 3) := by decide +kernel
theorem dL_refuses_798 : decode cL_refuses 798 = .ok (.bipush (-71), 2) := by decide +kernel
theorem dL_refuses_800 : decode cL_refuses 800 = .ok (.if_icmp .ne 85, 3) := by decide +kernel
theorem dL_refuses_803 : decode cL_refuses 803 = .ok (.aload_n 0, 1) := by decide +kernel
theorem dL_refuses_804 : decode cL_refuses 804 = .ok (.bipush 9, 2) := by decide +kernel
theorem dL_refuses_806 : decode cL_refuses 806 = .ok (.iload 10, 2) := by decide +kernel
theorem dL_refuses_808 : decode cL_refuses 808 = .ok (.bipush 99, 2) := by decide +kernel
theorem dL_refuses_810 : decode cL_refuses 810 = .ok (.iconst 0, 1) := by decide +kernel
theorem dL_refuses_811 : decode cL_refuses 811 = .ok (.iconst 0, 1) := by decide +kernel
theorem dL_refuses_812 : decode cL_refuses 812 = .ok (.invokestatic 90, 3) := by decide +kernel
theorem dL_refuses_815 : decode cL_refuses 815 = .ok (.bipush (-71), 2) := by decide +kernel
theorem dL_refuses_817 : decode cL_refuses 817 = .ok (.if_icmp .ne 68, 3) := by decide +kernel
theorem dL_refuses_820 : decode cL_refuses 820 = .ok (.aload_n 0, 1) := by decide +kernel
theorem dL_refuses_821 : decode cL_refuses 821 = .ok (.bipush 10, 2) := by decide +kernel
theorem dL_refuses_823 : decode cL_refuses 823 = .ok (.iload 8, 2) := by decide +kernel
theorem dL_refuses_825 : decode cL_refuses 825 = .ok (.bipush 99, 2) := by decide +kernel
theorem dL_refuses_827 : decode cL_refuses 827 = .ok (.iconst 0, 1) := by decide +kernel
theorem dL_refuses_828 : decode cL_refuses 828 = .ok (.iconst 0, 1) := by decide +kernel
theorem dL_refuses_829 : decode cL_refuses 829 = .ok (.invokestatic 90, 3) := by decide +kernel
theorem dL_refuses_832 : decode cL_refuses 832 = .ok (.bipush (-71), 2) := by decide +kernel
theorem dL_refuses_834 : decode cL_refuses 834 = .ok (.if_icmp .ne 51, 3) := by decide +kernel
theorem dL_refuses_837 : decode cL_refuses 837 = .ok (.aload_n 0, 1) := by decide +kernel
theorem dL_refuses_838 : decode cL_refuses 838 = .ok (.bipush 10, 2) := by decide +kernel
theorem dL_refuses_840 : decode cL_refuses 840 = .ok (.iconst 0, 1) := by decide +kernel
theorem dL_refuses_841 : decode cL_refuses 841 = .ok (.iload 6, 2) := by decide +kernel
theorem dL_refuses_843 : decode cL_refuses 843 = .ok (.iconst 1, 1) := by decide +kernel
theorem dL_refuses_844 : decode cL_refuses 844 = .ok (.if_icmp .ne 8, 3) := by decide +kernel
theorem dL_refuses_847 : decode cL_refuses 847 = .ok (.bipush 8, 2) := by decide +kernel
theorem dL_refuses_849 : decode cL_refuses 849 = .ok (.goto 5, 3) := by decide +kernel
theorem dL_refuses_852 : decode cL_refuses 852 = .ok (.iload 7, 2) := by decide +kernel
theorem dL_refuses_854 : decode cL_refuses 854 = .ok (.iconst 0, 1) := by decide +kernel
theorem dL_refuses_855 : decode cL_refuses 855 = .ok (.iconst 0, 1) := by decide +kernel
theorem dL_refuses_856 : decode cL_refuses 856 = .ok (.invokestatic 90, 3) := by decide +kernel
theorem dL_refuses_859 : decode cL_refuses 859 = .ok (.bipush (-72), 2) := by decide +kernel
theorem dL_refuses_861 : decode cL_refuses 861 = .ok (.if_icmp .ne 24, 3) := by decide +kernel
theorem dL_refuses_864 : decode cL_refuses 864 = .ok (.aload_n 0, 1) := by decide +kernel
theorem dL_refuses_865 : decode cL_refuses 865 = .ok (.bipush 11, 2) := by decide +kernel
theorem dL_refuses_867 : decode cL_refuses 867 = .ok (.iload 10, 2) := by decide +kernel
theorem dL_refuses_869 : decode cL_refuses 869 = .ok (.bipush 99, 2) := by decide +kernel
theorem dL_refuses_871 : decode cL_refuses 871 = .ok (.iconst 0, 1) := by decide +kernel
theorem dL_refuses_872 : decode cL_refuses 872 = .ok (.iconst 0, 1) := by decide +kernel
theorem dL_refuses_873 : decode cL_refuses 873 = .ok (.invokestatic 90, 3) := by decide +kernel
theorem dL_refuses_876 : decode cL_refuses 876 = .ok (.bipush (-71), 2) := by decide +kernel
theorem dL_refuses_878 : decode cL_refuses 878 = .ok (.if_icmp .ne 7, 3) := by decide +kernel
theorem dL_refuses_881 : decode cL_refuses 881 = .ok (.iconst 1, 1) := by decide +kernel
theorem dL_refuses_882 : decode cL_refuses 882 = .ok (.goto 4, 3) := by decide +kernel
theorem dL_refuses_885 : decode cL_refuses 885 = .ok (.iconst 0, 1) := by decide +kernel
theorem dL_refuses_886 : decode cL_refuses 886 = .ok (.istore 13, 2) := by decide +kernel
theorem dL_refuses_888 : decode cL_refuses 888 = .ok (.iload 13, 2) := by decide +kernel
theorem dL_refuses_890 : decode cL_refuses 890 = .ok (.ifCond .eq 337, 3) := by decide +kernel
theorem dL_refuses_893 : decode cL_refuses 893 = .ok (.aload_n 0, 1) := by decide +kernel
theorem dL_refuses_894 : decode cL_refuses 894 = .ok (.bipush 12, 2) := by decide +kernel
theorem dL_refuses_896 : decode cL_refuses 896 = .ok (.iload 6, 2) := by decide +kernel
theorem dL_refuses_898 : decode cL_refuses 898 = .ok (.iconst 1, 1) := by decide +kernel
theorem dL_refuses_899 : decode cL_refuses 899 = .ok (.if_icmp .ne 8, 3) := by decide +kernel
theorem dL_refuses_902 : decode cL_refuses 902 = .ok (.bipush 6, 2) := by decide +kernel
theorem dL_refuses_904 : decode cL_refuses 904 = .ok (.goto 5, 3) := by decide +kernel
theorem dL_refuses_907 : decode cL_refuses 907 = .ok (.iload 7, 2) := by decide +kernel
theorem dL_refuses_909 : decode cL_refuses 909 = .ok (.iconst 0, 1) := by decide +kernel
theorem dL_refuses_910 : decode cL_refuses 910 = .ok (.iconst 0, 1) := by decide +kernel
theorem dL_refuses_911 : decode cL_refuses 911 = .ok (.iconst 0, 1) := by decide +kernel
theorem dL_refuses_912 : decode cL_refuses 912 = .ok (.invokestatic 90, 3) := by decide +kernel
theorem dL_refuses_915 : decode cL_refuses 915 = .ok (.bipush (-71), 2) := by decide +kernel
theorem dL_refuses_917 : decode cL_refuses 917 = .ok (.if_icmp .ne 310, 3) := by decide +kernel
theorem dL_refuses_920 : decode cL_refuses 920 = .ok (.aload_n 0, 1) := by decide +kernel
theorem dL_refuses_921 : decode cL_refuses 921 = .ok (.bipush 13, 2) := by decide +kernel
theorem dL_refuses_923 : decode cL_refuses 923 = .ok (.bipush 9, 2) := by decide +kernel
theorem dL_refuses_925 : decode cL_refuses 925 = .ok (.iload 12, 2) := by decide +kernel
theorem dL_refuses_927 : decode cL_refuses 927 = .ok (.iconst (-1), 1) := by decide +kernel
theorem dL_refuses_928 : decode cL_refuses 928 = .ok (.iconst 0, 1) := by decide +kernel
theorem dL_refuses_929 : decode cL_refuses 929 = .ok (.invokestatic 90, 3) := by decide +kernel
theorem dL_refuses_932 : decode cL_refuses 932 = .ok (.bipush (-71), 2) := by decide +kernel
theorem dL_refuses_934 : decode cL_refuses 934 = .ok (.if_icmp .ne 293, 3) := by decide +kernel
theorem dL_refuses_937 : decode cL_refuses 937 = .ok (.aload_n 0, 1) := by decide +kernel
theorem dL_refuses_938 : decode cL_refuses 938 = .ok (.bipush 13, 2) := by decide +kernel
theorem dL_refuses_940 : decode cL_refuses 940 = .ok (.bipush 9, 2) := by decide +kernel
theorem dL_refuses_942 : decode cL_refuses 942 = .ok (.iconst 0, 1) := by decide +kernel
theorem dL_refuses_943 : decode cL_refuses 943 = .ok (.iload 6, 2) := by decide +kernel
theorem dL_refuses_945 : decode cL_refuses 945 = .ok (.ifCond .ne 8, 3) := by decide +kernel
theorem dL_refuses_948 : decode cL_refuses 948 = .ok (.bipush (-2), 2) := by decide +kernel
theorem dL_refuses_950 : decode cL_refuses 950 = .ok (.goto 5, 3) := by decide +kernel
theorem dL_refuses_953 : decode cL_refuses 953 = .ok (.iload 12, 2) := by decide +kernel
theorem dL_refuses_955 : decode cL_refuses 955 = .ok (.iconst 0, 1) := by decide +kernel
theorem dL_refuses_956 : decode cL_refuses 956 = .ok (.invokestatic 90, 3) := by decide +kernel
theorem dL_refuses_959 : decode cL_refuses 959 = .ok (.bipush (-71), 2) := by decide +kernel
theorem dL_refuses_961 : decode cL_refuses 961 = .ok (.if_icmp .ne 266, 3) := by decide +kernel
theorem dL_refuses_964 : decode cL_refuses 964 = .ok (.aload_n 0, 1) := by decide +kernel
theorem dL_refuses_965 : decode cL_refuses 965 = .ok (.bipush 14, 2) := by decide +kernel
theorem dL_refuses_967 : decode cL_refuses 967 = .ok (.iload 6, 2) := by decide +kernel
theorem dL_refuses_969 : decode cL_refuses 969 = .ok (.iconst 1, 1) := by decide +kernel
theorem dL_refuses_970 : decode cL_refuses 970 = .ok (.if_icmp .ne 8, 3) := by decide +kernel
theorem dL_refuses_973 : decode cL_refuses 973 = .ok (.bipush 6, 2) := by decide +kernel
theorem dL_refuses_975 : decode cL_refuses 975 = .ok (.goto 5, 3) := by decide +kernel
theorem dL_refuses_978 : decode cL_refuses 978 = .ok (.iload 7, 2) := by decide +kernel
theorem dL_refuses_980 : decode cL_refuses 980 = .ok (.bipush 9, 2) := by decide +kernel
theorem dL_refuses_982 : decode cL_refuses 982 = .ok (.iconst 0, 1) := by decide +kernel
theorem dL_refuses_983 : decode cL_refuses 983 = .ok (.iconst 0, 1) := by decide +kernel
theorem dL_refuses_984 : decode cL_refuses 984 = .ok (.invokestatic 90, 3) := by decide +kernel
theorem dL_refuses_987 : decode cL_refuses 987 = .ok (.bipush (-71), 2) := by decide +kernel
theorem dL_refuses_989 : decode cL_refuses 989 = .ok (.if_icmp .ne 238, 3) := by decide +kernel
theorem dL_refuses_992 : decode cL_refuses 992 = .ok (.aload_n 0, 1) := by decide +kernel
theorem dL_refuses_993 : decode cL_refuses 993 = .ok (.bipush 14, 2) := by decide +kernel
theorem dL_refuses_995 : decode cL_refuses 995 = .ok (.iconst 0, 1) := by decide +kernel
theorem dL_refuses_996 : decode cL_refuses 996 = .ok (.iload 6, 2) := by decide +kernel
theorem dL_refuses_998 : decode cL_refuses 998 = .ok (.iconst 1, 1) := by decide +kernel
theorem dL_refuses_999 : decode cL_refuses 999 = .ok (.if_icmp .ne 7, 3) := by decide +kernel
theorem dL_refuses_1002 : decode cL_refuses 1002 = .ok (.iconst 3, 1) := by decide +kernel
theorem dL_refuses_1003 : decode cL_refuses 1003 = .ok (.goto 5, 3) := by decide +kernel
theorem dL_refuses_1006 : decode cL_refuses 1006 = .ok (.iload 7, 2) := by decide +kernel
theorem dL_refuses_1008 : decode cL_refuses 1008 = .ok (.iconst 0, 1) := by decide +kernel
theorem dL_refuses_1009 : decode cL_refuses 1009 = .ok (.iconst 0, 1) := by decide +kernel
theorem dL_refuses_1010 : decode cL_refuses 1010 = .ok (.invokestatic 90, 3) := by decide +kernel
theorem dL_refuses_1013 : decode cL_refuses 1013 = .ok (.bipush (-72), 2) := by decide +kernel
theorem dL_refuses_1015 : decode cL_refuses 1015 = .ok (.if_icmp .ne 212, 3) := by decide +kernel
theorem dL_refuses_1018 : decode cL_refuses 1018 = .ok (.aload_n 0, 1) := by decide +kernel
theorem dL_refuses_1019 : decode cL_refuses 1019 = .ok (.bipush 15, 2) := by decide +kernel
theorem dL_refuses_1021 : decode cL_refuses 1021 = .ok (.iload 6, 2) := by decide +kernel
theorem dL_refuses_1023 : decode cL_refuses 1023 = .ok (.iconst 1, 1) := by decide +kernel
theorem dL_refuses_1024 : decode cL_refuses 1024 = .ok (.if_icmp .ne 8, 3) := by decide +kernel
theorem dL_refuses_1027 : decode cL_refuses 1027 = .ok (.bipush 6, 2) := by decide +kernel
theorem dL_refuses_1029 : decode cL_refuses 1029 = .ok (.goto 5, 3) := by decide +kernel
theorem dL_refuses_1032 : decode cL_refuses 1032 = .ok (.iload 7, 2) := by decide +kernel
theorem dL_refuses_1034 : decode cL_refuses 1034 = .ok (.iconst 0, 1) := by decide +kernel
theorem dL_refuses_1035 : decode cL_refuses 1035 = .ok (.iconst 0, 1) := by decide +kernel
theorem dL_refuses_1036 : decode cL_refuses 1036 = .ok (.iconst 0, 1) := by decide +kernel
theorem dL_refuses_1037 : decode cL_refuses 1037 = .ok (.invokestatic 90, 3) := by decide +kernel
theorem dL_refuses_1040 : decode cL_refuses 1040 = .ok (.bipush (-71), 2) := by decide +kernel
theorem dL_refuses_1042 : decode cL_refuses 1042 = .ok (.if_icmp .ne 185, 3) := by decide +kernel
theorem dL_refuses_1045 : decode cL_refuses 1045 = .ok (.aload_n 0, 1) := by decide +kernel
theorem dL_refuses_1046 : decode cL_refuses 1046 = .ok (.bipush 16, 2) := by decide +kernel
theorem dL_refuses_1048 : decode cL_refuses 1048 = .ok (.iload 12, 2) := by decide +kernel
theorem dL_refuses_1050 : decode cL_refuses 1050 = .ok (.iconst 0, 1) := by decide +kernel
theorem dL_refuses_1051 : decode cL_refuses 1051 = .ok (.iconst 0, 1) := by decide +kernel
theorem dL_refuses_1052 : decode cL_refuses 1052 = .ok (.iconst 0, 1) := by decide +kernel
theorem dL_refuses_1053 : decode cL_refuses 1053 = .ok (.invokestatic 90, 3) := by decide +kernel
theorem dL_refuses_1056 : decode cL_refuses 1056 = .ok (.bipush (-71), 2) := by decide +kernel
theorem dL_refuses_1058 : decode cL_refuses 1058 = .ok (.if_icmp .ne 169, 3) := by decide +kernel
theorem dL_refuses_1061 : decode cL_refuses 1061 = .ok (.aload_n 0, 1) := by decide +kernel
theorem dL_refuses_1062 : decode cL_refuses 1062 = .ok (.iload 12, 2) := by decide +kernel
theorem dL_refuses_1064 : decode cL_refuses 1064 = .ok (.iconst 0, 1) := by decide +kernel
theorem dL_refuses_1065 : decode cL_refuses 1065 = .ok (.iconst 0, 1) := by decide +kernel
theorem dL_refuses_1066 : decode cL_refuses 1066 = .ok (.iconst 0, 1) := by decide +kernel
theorem dL_refuses_1067 : decode cL_refuses 1067 = .ok (.iconst 0, 1) := by decide +kernel
theorem dL_refuses_1068 : decode cL_refuses 1068 = .ok (.iconst 0, 1) := by decide +kernel
theorem dL_refuses_1069 : decode cL_refuses 1069 = .ok (.invokestatic 94, 3) := by decide +kernel
theorem dL_refuses_1072 : decode cL_refuses 1072 = .ok (.bipush (-71), 2) := by decide +kernel
theorem dL_refuses_1074 : decode cL_refuses 1074 = .ok (.if_icmp .ne 153, 3) := by decide +kernel
theorem dL_refuses_1077 : decode cL_refuses 1077 = .ok (.aload_n 0, 1) := by decide +kernel
theorem dL_refuses_1078 : decode cL_refuses 1078 = .ok (.iconst 0, 1) := by decide +kernel
theorem dL_refuses_1079 : decode cL_refuses 1079 = .ok (.iload 6, 2) := by decide +kernel
theorem dL_refuses_1081 : decode cL_refuses 1081 = .ok (.iconst 1, 1) := by decide +kernel
theorem dL_refuses_1082 : decode cL_refuses 1082 = .ok (.if_icmp .ne 7, 3) := by decide +kernel
theorem dL_refuses_1085 : decode cL_refuses 1085 = .ok (.iconst 3, 1) := by decide +kernel
theorem dL_refuses_1086 : decode cL_refuses 1086 = .ok (.goto 5, 3) := by decide +kernel
theorem dL_refuses_1089 : decode cL_refuses 1089 = .ok (.iload 7, 2) := by decide +kernel
theorem dL_refuses_1091 : decode cL_refuses 1091 = .ok (.iconst 0, 1) := by decide +kernel
theorem dL_refuses_1092 : decode cL_refuses 1092 = .ok (.iconst 0, 1) := by decide +kernel
theorem dL_refuses_1093 : decode cL_refuses 1093 = .ok (.iconst 0, 1) := by decide +kernel
theorem dL_refuses_1094 : decode cL_refuses 1094 = .ok (.iconst 0, 1) := by decide +kernel
theorem dL_refuses_1095 : decode cL_refuses 1095 = .ok (.invokestatic 94, 3) := by decide +kernel
theorem dL_refuses_1098 : decode cL_refuses 1098 = .ok (.bipush (-71), 2) := by decide +kernel
theorem dL_refuses_1100 : decode cL_refuses 1100 = .ok (.if_icmp .ne 127, 3) := by decide +kernel
theorem dL_refuses_1103 : decode cL_refuses 1103 = .ok (.aload_n 0, 1) := by decide +kernel
theorem dL_refuses_1104 : decode cL_refuses 1104 = .ok (.iconst 0, 1) := by decide +kernel
theorem dL_refuses_1105 : decode cL_refuses 1105 = .ok (.iconst 0, 1) := by decide +kernel
theorem dL_refuses_1106 : decode cL_refuses 1106 = .ok (.iload 6, 2) := by decide +kernel
theorem dL_refuses_1108 : decode cL_refuses 1108 = .ok (.iconst 1, 1) := by decide +kernel
theorem dL_refuses_1109 : decode cL_refuses 1109 = .ok (.if_icmp .ne 7, 3) := by decide +kernel
theorem dL_refuses_1112 : decode cL_refuses 1112 = .ok (.iconst 4, 1) := by decide +kernel
theorem dL_refuses_1113 : decode cL_refuses 1113 = .ok (.goto 5, 3) := by decide +kernel
theorem dL_refuses_1116 : decode cL_refuses 1116 = .ok (.iload 7, 2) := by decide +kernel
theorem dL_refuses_1118 : decode cL_refuses 1118 = .ok (.iconst 0, 1) := by decide +kernel
theorem dL_refuses_1119 : decode cL_refuses 1119 = .ok (.iconst 0, 1) := by decide +kernel
theorem dL_refuses_1120 : decode cL_refuses 1120 = .ok (.iconst 0, 1) := by decide +kernel
theorem dL_refuses_1121 : decode cL_refuses 1121 = .ok (.invokestatic 94, 3) := by decide +kernel
theorem dL_refuses_1124 : decode cL_refuses 1124 = .ok (.bipush (-71), 2) := by decide +kernel
theorem dL_refuses_1126 : decode cL_refuses 1126 = .ok (.if_icmp .ne 101, 3) := by decide +kernel
theorem dL_refuses_1129 : decode cL_refuses 1129 = .ok (.aload_n 0, 1) := by decide +kernel
theorem dL_refuses_1130 : decode cL_refuses 1130 = .ok (.iload 12, 2) := by decide +kernel
theorem dL_refuses_1132 : decode cL_refuses 1132 = .ok (.iconst 0, 1) := by decide +kernel
theorem dL_refuses_1133 : decode cL_refuses 1133 = .ok (.iconst 0, 1) := by decide +kernel
theorem dL_refuses_1134 : decode cL_refuses 1134 = .ok (.iconst 0, 1) := by decide +kernel
theorem dL_refuses_1135 : decode cL_refuses 1135 = .ok (.bipush 9, 2) := by decide +kernel
theorem dL_refuses_1137 : decode cL_refuses 1137 = .ok (.invokestatic 97, 3) := by decide +kernel
theorem dL_refuses_1140 : decode cL_refuses 1140 = .ok (.bipush (-71), 2) := by decide +kernel
theorem dL_refuses_1142 : decode cL_refuses 1142 = .ok (.if_icmp .ne 85, 3) := by decide +kernel
theorem dL_refuses_1145 : decode cL_refuses 1145 = .ok (.aload_n 0, 1) := by decide +kernel
theorem dL_refuses_1146 : decode cL_refuses 1146 = .ok (.iconst 0, 1) := by decide +kernel
theorem dL_refuses_1147 : decode cL_refuses 1147 = .ok (.iload 6, 2) := by decide +kernel
theorem dL_refuses_1149 : decode cL_refuses 1149 = .ok (.iconst 1, 1) := by decide +kernel
theorem dL_refuses_1150 : decode cL_refuses 1150 = .ok (.if_icmp .ne 7, 3) := by decide +kernel
theorem dL_refuses_1153 : decode cL_refuses 1153 = .ok (.iconst 3, 1) := by decide +kernel
theorem dL_refuses_1154 : decode cL_refuses 1154 = .ok (.goto 5, 3) := by decide +kernel
theorem dL_refuses_1157 : decode cL_refuses 1157 = .ok (.iload 7, 2) := by decide +kernel
theorem dL_refuses_1159 : decode cL_refuses 1159 = .ok (.iconst 0, 1) := by decide +kernel
theorem dL_refuses_1160 : decode cL_refuses 1160 = .ok (.iconst 0, 1) := by decide +kernel
theorem dL_refuses_1161 : decode cL_refuses 1161 = .ok (.bipush 9, 2) := by decide +kernel
theorem dL_refuses_1163 : decode cL_refuses 1163 = .ok (.invokestatic 97, 3) := by decide +kernel
theorem dL_refuses_1166 : decode cL_refuses 1166 = .ok (.bipush (-71), 2) := by decide +kernel
theorem dL_refuses_1168 : decode cL_refuses 1168 = .ok (.if_icmp .ne 59, 3) := by decide +kernel
theorem dL_refuses_1171 : decode cL_refuses 1171 = .ok (.aload_n 0, 1) := by decide +kernel
theorem dL_refuses_1172 : decode cL_refuses 1172 = .ok (.iconst 0, 1) := by decide +kernel
theorem dL_refuses_1173 : decode cL_refuses 1173 = .ok (.iconst 0, 1) := by decide +kernel
theorem dL_refuses_1174 : decode cL_refuses 1174 = .ok (.iload 6, 2) := by decide +kernel
theorem dL_refuses_1176 : decode cL_refuses 1176 = .ok (.iconst 1, 1) := by decide +kernel
theorem dL_refuses_1177 : decode cL_refuses 1177 = .ok (.if_icmp .ne 7, 3) := by decide +kernel
theorem dL_refuses_1180 : decode cL_refuses 1180 = .ok (.iconst 3, 1) := by decide +kernel
theorem dL_refuses_1181 : decode cL_refuses 1181 = .ok (.goto 5, 3) := by decide +kernel
theorem dL_refuses_1184 : decode cL_refuses 1184 = .ok (.iload 7, 2) := by decide +kernel
theorem dL_refuses_1186 : decode cL_refuses 1186 = .ok (.iconst 0, 1) := by decide +kernel
theorem dL_refuses_1187 : decode cL_refuses 1187 = .ok (.bipush 9, 2) := by decide +kernel
theorem dL_refuses_1189 : decode cL_refuses 1189 = .ok (.invokestatic 97, 3) := by decide +kernel
theorem dL_refuses_1192 : decode cL_refuses 1192 = .ok (.bipush (-71), 2) := by decide +kernel
theorem dL_refuses_1194 : decode cL_refuses 1194 = .ok (.if_icmp .ne 33, 3) := by decide +kernel
theorem dL_refuses_1197 : decode cL_refuses 1197 = .ok (.aload_n 0, 1) := by decide +kernel
theorem dL_refuses_1198 : decode cL_refuses 1198 = .ok (.iconst 0, 1) := by decide +kernel
theorem dL_refuses_1199 : decode cL_refuses 1199 = .ok (.iconst 0, 1) := by decide +kernel
theorem dL_refuses_1200 : decode cL_refuses 1200 = .ok (.iconst 0, 1) := by decide +kernel
theorem dL_refuses_1201 : decode cL_refuses 1201 = .ok (.iload 6, 2) := by decide +kernel
theorem dL_refuses_1203 : decode cL_refuses 1203 = .ok (.iconst 1, 1) := by decide +kernel
theorem dL_refuses_1204 : decode cL_refuses 1204 = .ok (.if_icmp .ne 7, 3) := by decide +kernel
theorem dL_refuses_1207 : decode cL_refuses 1207 = .ok (.iconst 4, 1) := by decide +kernel
theorem dL_refuses_1208 : decode cL_refuses 1208 = .ok (.goto 5, 3) := by decide +kernel
theorem dL_refuses_1211 : decode cL_refuses 1211 = .ok (.iload 7, 2) := by decide +kernel
theorem dL_refuses_1213 : decode cL_refuses 1213 = .ok (.bipush 9, 2) := by decide +kernel
theorem dL_refuses_1215 : decode cL_refuses 1215 = .ok (.invokestatic 97, 3) := by decide +kernel
theorem dL_refuses_1218 : decode cL_refuses 1218 = .ok (.bipush (-71), 2) := by decide +kernel
theorem dL_refuses_1220 : decode cL_refuses 1220 = .ok (.if_icmp .ne 7, 3) := by decide +kernel
theorem dL_refuses_1223 : decode cL_refuses 1223 = .ok (.iconst 1, 1) := by decide +kernel
theorem dL_refuses_1224 : decode cL_refuses 1224 = .ok (.goto 4, 3) := by decide +kernel
theorem dL_refuses_1227 : decode cL_refuses 1227 = .ok (.iconst 0, 1) := by decide +kernel
theorem dL_refuses_1228 : decode cL_refuses 1228 = .ok (.istore 13, 2) := by decide +kernel
theorem dL_refuses_1230 : decode cL_refuses 1230 = .ok (.iload 13, 2) := by decide +kernel
theorem dL_refuses_1232 : decode cL_refuses 1232 = .ok (.ifCond .eq 187, 3) := by decide +kernel
theorem dL_refuses_1235 : decode cL_refuses 1235 = .ok (.iload_n 1, 1) := by decide +kernel
theorem dL_refuses_1236 : decode cL_refuses 1236 = .ok (.ifCond .eq 53, 3) := by decide +kernel
theorem dL_refuses_1239 : decode cL_refuses 1239 = .ok (.aload_n 0, 1) := by decide +kernel
theorem dL_refuses_1240 : decode cL_refuses 1240 = .ok (.iconst 0, 1) := by decide +kernel
theorem dL_refuses_1241 : decode cL_refuses 1241 = .ok (.iconst 0, 1) := by decide +kernel
theorem dL_refuses_1242 : decode cL_refuses 1242 = .ok (.iload 6, 2) := by decide +kernel
theorem dL_refuses_1244 : decode cL_refuses 1244 = .ok (.iconst 1, 1) := by decide +kernel
theorem dL_refuses_1245 : decode cL_refuses 1245 = .ok (.if_icmp .ne 7, 3) := by decide +kernel
theorem dL_refuses_1248 : decode cL_refuses 1248 = .ok (.iconst 2, 1) := by decide +kernel
theorem dL_refuses_1249 : decode cL_refuses 1249 = .ok (.goto 5, 3) := by decide +kernel
theorem dL_refuses_1252 : decode cL_refuses 1252 = .ok (.iload 7, 2) := by decide +kernel
theorem dL_refuses_1254 : decode cL_refuses 1254 = .ok (.iconst 0, 1) := by decide +kernel
theorem dL_refuses_1255 : decode cL_refuses 1255 = .ok (.iconst 0, 1) := by decide +kernel
theorem dL_refuses_1256 : decode cL_refuses 1256 = .ok (.invokestatic 90, 3) := by decide +kernel
theorem dL_refuses_1259 : decode cL_refuses 1259 = .ok (.bipush (-72), 2) := by decide +kernel
theorem dL_refuses_1261 : decode cL_refuses 1261 = .ok (.if_icmp .ne 158, 3) := by decide +kernel
theorem dL_refuses_1264 : decode cL_refuses 1264 = .ok (.aload_n 0, 1) := by decide +kernel
theorem dL_refuses_1265 : decode cL_refuses 1265 = .ok (.iconst 1, 1) := by decide +kernel
theorem dL_refuses_1266 : decode cL_refuses 1266 = .ok (.iconst 0, 1) := by decide +kernel
theorem dL_refuses_1267 : decode cL_refuses 1267 = .ok (.iload 6, 2) := by decide +kernel
theorem dL_refuses_1269 : decode cL_refuses 1269 = .ok (.iconst 1, 1) := by decide +kernel
theorem dL_refuses_1270 : decode cL_refuses 1270 = .ok (.if_icmp .ne 7, 3) := by decide +kernel
theorem dL_refuses_1273 : decode cL_refuses 1273 = .ok (.iconst 3, 1) := by decide +kernel
theorem dL_refuses_1274 : decode cL_refuses 1274 = .ok (.goto 5, 3) := by decide +kernel
theorem dL_refuses_1277 : decode cL_refuses 1277 = .ok (.iload 7, 2) := by decide +kernel
theorem dL_refuses_1279 : decode cL_refuses 1279 = .ok (.iconst 0, 1) := by decide +kernel
theorem dL_refuses_1280 : decode cL_refuses 1280 = .ok (.iconst 0, 1) := by decide +kernel
theorem dL_refuses_1281 : decode cL_refuses 1281 = .ok (.invokestatic 90, 3) := by decide +kernel
theorem dL_refuses_1284 : decode cL_refuses 1284 = .ok (.bipush (-72), 2) := by decide +kernel
theorem dL_refuses_1286 : decode cL_refuses 1286 = .ok (.if_icmp .ne 133, 3) := by decide +kernel
theorem dL_refuses_1289 : decode cL_refuses 1289 = .ok (.iload_n 2, 1) := by decide +kernel
theorem dL_refuses_1290 : decode cL_refuses 1290 = .ok (.ifCond .eq 106, 3) := by decide +kernel
theorem dL_refuses_1293 : decode cL_refuses 1293 = .ok (.aload_n 0, 1) := by decide +kernel
theorem dL_refuses_1294 : decode cL_refuses 1294 = .ok (.iconst 4, 1) := by decide +kernel
theorem dL_refuses_1295 : decode cL_refuses 1295 = .ok (.iload 6, 2) := by decide +kernel
theorem dL_refuses_1297 : decode cL_refuses 1297 = .ok (.iconst 1, 1) := by decide +kernel
theorem dL_refuses_1298 : decode cL_refuses 1298 = .ok (.if_icmp .ne 7, 3) := by decide +kernel
theorem dL_refuses_1301 : decode cL_refuses 1301 = .ok (.iconst 4, 1) := by decide +kernel
theorem dL_refuses_1302 : decode cL_refuses 1302 = .ok (.goto 5, 3) := by decide +kernel
theorem dL_refuses_1305 : decode cL_refuses 1305 = .ok (.iload 7, 2) := by decide +kernel
theorem dL_refuses_1307 : decode cL_refuses 1307 = .ok (.iconst 0, 1) := by decide +kernel
theorem dL_refuses_1308 : decode cL_refuses 1308 = .ok (.iconst 0, 1) := by decide +kernel
theorem dL_refuses_1309 : decode cL_refuses 1309 = .ok (.iconst 0, 1) := by decide +kernel
theorem dL_refuses_1310 : decode cL_refuses 1310 = .ok (.invokestatic 90, 3) := by decide +kernel
theorem dL_refuses_1313 : decode cL_refuses 1313 = .ok (.bipush (-72), 2) := by decide +kernel
theorem dL_refuses_1315 : decode cL_refuses 1315 = .ok (.if_icmp .ne 104, 3) := by decide +kernel
theorem dL_refuses_1318 : decode cL_refuses 1318 = .ok (.aload_n 0, 1) := by decide +kernel
theorem dL_refuses_1319 : decode cL_refuses 1319 = .ok (.iconst 5, 1) := by decide +kernel
theorem dL_refuses_1320 : decode cL_refuses 1320 = .ok (.iconst 0, 1) := by decide +kernel
theorem dL_refuses_1321 : decode cL_refuses 1321 = .ok (.iload 6, 2) := by decide +kernel
theorem dL_refuses_1323 : decode cL_refuses 1323 = .ok (.iconst 1, 1) := by decide +kernel
theorem dL_refuses_1324 : decode cL_refuses 1324 = .ok (.if_icmp .ne 7, 3) := by decide +kernel
theorem dL_refuses_1327 : decode cL_refuses 1327 = .ok (.iconst 3, 1) := by decide +kernel
theorem dL_refuses_1328 : decode cL_refuses 1328 = .ok (.goto 5, 3) := by decide +kernel
theorem dL_refuses_1331 : decode cL_refuses 1331 = .ok (.iload 7, 2) := by decide +kernel
theorem dL_refuses_1333 : decode cL_refuses 1333 = .ok (.iconst 0, 1) := by decide +kernel
theorem dL_refuses_1334 : decode cL_refuses 1334 = .ok (.iconst 0, 1) := by decide +kernel
theorem dL_refuses_1335 : decode cL_refuses 1335 = .ok (.invokestatic 90, 3) := by decide +kernel
theorem dL_refuses_1338 : decode cL_refuses 1338 = .ok (.bipush (-72), 2) := by decide +kernel
theorem dL_refuses_1340 : decode cL_refuses 1340 = .ok (.if_icmp .ne 79, 3) := by decide +kernel
theorem dL_refuses_1343 : decode cL_refuses 1343 = .ok (.aload_n 0, 1) := by decide +kernel
theorem dL_refuses_1344 : decode cL_refuses 1344 = .ok (.bipush 9, 2) := by decide +kernel
theorem dL_refuses_1346 : decode cL_refuses 1346 = .ok (.iconst 0, 1) := by decide +kernel
theorem dL_refuses_1347 : decode cL_refuses 1347 = .ok (.iload 6, 2) := by decide +kernel
theorem dL_refuses_1349 : decode cL_refuses 1349 = .ok (.iconst 1, 1) := by decide +kernel
theorem dL_refuses_1350 : decode cL_refuses 1350 = .ok (.if_icmp .ne 8, 3) := by decide +kernel
theorem dL_refuses_1353 : decode cL_refuses 1353 = .ok (.bipush 9, 2) := by decide +kernel
theorem dL_refuses_1355 : decode cL_refuses 1355 = .ok (.goto 5, 3) := by decide +kernel
theorem dL_refuses_1358 : decode cL_refuses 1358 = .ok (.iload 7, 2) := by decide +kernel
theorem dL_refuses_1360 : decode cL_refuses 1360 = .ok (.iconst 0, 1) := by decide +kernel
theorem dL_refuses_1361 : decode cL_refuses 1361 = .ok (.iconst 0, 1) := by decide +kernel
theorem dL_refuses_1362 : decode cL_refuses 1362 = .ok (.invokestatic 90, 3) := by decide +kernel
theorem dL_refuses_1365 : decode cL_refuses 1365 = .ok (.bipush (-72), 2) := by decide +kernel
theorem dL_refuses_1367 : decode cL_refuses 1367 = .ok (.if_icmp .ne 52, 3) := by decide +kernel
theorem dL_refuses_1370 : decode cL_refuses 1370 = .ok (.aload_n 0, 1) := by decide +kernel
theorem dL_refuses_1371 : decode cL_refuses 1371 = .ok (.bipush 11, 2) := by decide +kernel
theorem dL_refuses_1373 : decode cL_refuses 1373 = .ok (.iconst 0, 1) := by decide +kernel
theorem dL_refuses_1374 : decode cL_refuses 1374 = .ok (.iload 6, 2) := by decide +kernel
theorem dL_refuses_1376 : decode cL_refuses 1376 = .ok (.iconst 1, 1) := by decide +kernel
theorem dL_refuses_1377 : decode cL_refuses 1377 = .ok (.if_icmp .ne 7, 3) := by decide +kernel
theorem dL_refuses_1380 : decode cL_refuses 1380 = .ok (.iconst 3, 1) := by decide +kernel
theorem dL_refuses_1381 : decode cL_refuses 1381 = .ok (.goto 5, 3) := by decide +kernel
theorem dL_refuses_1384 : decode cL_refuses 1384 = .ok (.iload 7, 2) := by decide +kernel
theorem dL_refuses_1386 : decode cL_refuses 1386 = .ok (.iconst 0, 1) := by decide +kernel
theorem dL_refuses_1387 : decode cL_refuses 1387 = .ok (.iconst 0, 1) := by decide +kernel
theorem dL_refuses_1388 : decode cL_refuses 1388 = .ok (.invokestatic 90, 3) := by decide +kernel
theorem dL_refuses_1391 : decode cL_refuses 1391 = .ok (.bipush (-72), 2) := by decide +kernel
theorem dL_refuses_1393 : decode cL_refuses 1393 = .ok (.if_icmp .ne 26, 3) := by decide +kernel
theorem dL_refuses_1396 : decode cL_refuses 1396 = .ok (.iload_n 2, 1) := by decide +kernel
theorem dL_refuses_1397 : decode cL_refuses 1397 = .ok (.iconst 2, 1) := by decide +kernel
theorem dL_refuses_1398 : decode cL_refuses 1398 = .ok (.if_icmp .lt 17, 3) := by decide +kernel
theorem dL_refuses_1401 : decode cL_refuses 1401 = .ok (.aload_n 0, 1) := by decide +kernel
theorem dL_refuses_1402 : decode cL_refuses 1402 = .ok (.iconst 4, 1) := by decide +kernel
theorem dL_refuses_1403 : decode cL_refuses 1403 = .ok (.iconst 0, 1) := by decide +kernel
theorem dL_refuses_1404 : decode cL_refuses 1404 = .ok (.iconst 1, 1) := by decide +kernel
theorem dL_refuses_1405 : decode cL_refuses 1405 = .ok (.iconst 0, 1) := by decide +kernel
theorem dL_refuses_1406 : decode cL_refuses 1406 = .ok (.iconst 0, 1) := by decide +kernel
theorem dL_refuses_1407 : decode cL_refuses 1407 = .ok (.invokestatic 90, 3) := by decide +kernel
theorem dL_refuses_1410 : decode cL_refuses 1410 = .ok (.bipush (-72), 2) := by decide +kernel
theorem dL_refuses_1412 : decode cL_refuses 1412 = .ok (.if_icmp .ne 7, 3) := by decide +kernel
theorem dL_refuses_1415 : decode cL_refuses 1415 = .ok (.iconst 1, 1) := by decide +kernel
theorem dL_refuses_1416 : decode cL_refuses 1416 = .ok (.goto 4, 3) := by decide +kernel
theorem dL_refuses_1419 : decode cL_refuses 1419 = .ok (.iconst 0, 1) := by decide +kernel
theorem dL_refuses_1420 : decode cL_refuses 1420 = .ok (.istore 13, 2) := by decide +kernel
theorem dL_refuses_1422 : decode cL_refuses 1422 = .ok (.iload 13, 2) := by decide +kernel
theorem dL_refuses_1424 : decode cL_refuses 1424 = .ok (.ifCond .ne 5, 3) := by decide +kernel
theorem dL_refuses_1427 : decode cL_refuses 1427 = .ok (.iconst 0, 1) := by decide +kernel
theorem dL_refuses_1428 : decode cL_refuses 1428 = .ok (.ireturn, 1) := by decide +kernel
theorem dL_refuses_1429 : decode cL_refuses 1429 = .ok (.iinc 6 1, 3) := by decide +kernel
theorem dL_refuses_1432 : decode cL_refuses 1432 = .ok (.goto (-1425), 3) := by decide +kernel
theorem dL_refuses_1435 : decode cL_refuses 1435 = .ok (.iconst 1, 1) := by decide +kernel
theorem dL_refuses_1436 : decode cL_refuses 1436 = .ok (.ireturn, 1) := by decide +kernel
theorem dL_says_0 : decode cL_says 0 = .ok (.new 8, 3) := by decide +kernel
theorem dL_says_3 : decode cL_says 3 = .ok (.dup, 1) := by decide +kernel
theorem dL_says_4 : decode cL_says 4 = .ok (.invokespecial 99, 3) := by decide +kernel
theorem dL_says_7 : decode cL_says 7 = .ok (.astore_n 0, 1) := by decide +kernel
theorem dL_says_8 : decode cL_says 8 = .ok (.aload_n 0, 1) := by decide +kernel
theorem dL_says_9 : decode cL_says 9 = .ok (.iconst 0, 1) := by decide +kernel
theorem dL_says_10 : decode cL_says 10 = .ok (.iconst 0, 1) := by decide +kernel
theorem dL_says_11 : decode cL_says 11 = .ok (.iconst 0, 1) := by decide +kernel
theorem dL_says_12 : decode cL_says 12 = .ok (.iconst 0, 1) := by decide +kernel
theorem dL_says_13 : decode cL_says 13 = .ok (.invokestatic 100, 3) := by decide +kernel
theorem dL_says_16 : decode cL_says 16 = .ok (.ifCond .eq 318, 3) := by decide +kernel
theorem dL_says_19 : decode cL_says 19 = .ok (.aload_n 0, 1) := by decide +kernel
theorem dL_says_20 : decode cL_says 20 = .ok (.iconst 0, 1) := by decide +kernel
theorem dL_says_21 : decode cL_says 21 = .ok (.iconst 0, 1) := by decide +kernel
theorem dL_says_22 : decode cL_says 22 = .ok (.invokevirtual 44, 3) := by decide +kernel
theorem dL_says_25 : decode cL_says 25 = .ok (.iconst (-1), 1) := by decide +kernel
theorem dL_says_26 : decode cL_says 26 = .ok (.if_icmp .ne 308, 3) := by decide +kernel
theorem dL_says_29 : decode cL_says 29 = .ok (.aload_n 0, 1) := by decide +kernel
theorem dL_says_30 : decode cL_says 30 = .ok (.invokevirtual 104, 3) := by decide +kernel
theorem dL_says_33 : decode cL_says 33 = .ok (.ifCond .ne 301, 3) := by decide +kernel
theorem dL_says_36 : decode cL_says 36 = .ok (.aload_n 0, 1) := by decide +kernel
theorem dL_says_37 : decode cL_says 37 = .ok (.iconst 2, 1) := by decide +kernel
theorem dL_says_38 : decode cL_says 38 = .ok (.iconst 0, 1) := by decide +kernel
theorem dL_says_39 : decode cL_says 39 = .ok (.bipush 8, 2) := by decide +kernel
theorem dL_says_41 : decode cL_says 41 = .ok (.iconst 1, 1) := by decide +kernel
theorem dL_says_42 : decode cL_says 42 = .ok (.iconst 1, 1) := by decide +kernel
theorem dL_says_43 : decode cL_says 43 = .ok (.iconst 0, 1) := by decide +kernel
theorem dL_says_44 : decode cL_says 44 = .ok (.bipush 9, 2) := by decide +kernel
theorem dL_says_46 : decode cL_says 46 = .ok (.invokevirtual 72, 3) := by decide +kernel
theorem dL_says_49 : decode cL_says 49 = .ok (.ifCond .ne 285, 3) := by decide +kernel
theorem dL_says_52 : decode cL_says 52 = .ok (.aload_n 0, 1) := by decide +kernel
theorem dL_says_53 : decode cL_says 53 = .ok (.iconst 0, 1) := by decide +kernel
theorem dL_says_54 : decode cL_says 54 = .ok (.iconst 0, 1) := by decide +kernel
theorem dL_says_55 : decode cL_says 55 = .ok (.invokevirtual 7, 3) := by decide +kernel
theorem dL_says_58 : decode cL_says 58 = .ok (.iconst (-1), 1) := by decide +kernel
theorem dL_says_59 : decode cL_says 59 = .ok (.if_icmp .ne 275, 3) := by decide +kernel
theorem dL_says_62 : decode cL_says 62 = .ok (.aload_n 0, 1) := by decide +kernel
theorem dL_says_63 : decode cL_says 63 = .ok (.iconst 0, 1) := by decide +kernel
theorem dL_says_64 : decode cL_says 64 = .ok (.iconst 1, 1) := by decide +kernel
theorem dL_says_65 : decode cL_says 65 = .ok (.invokevirtual 7, 3) := by decide +kernel
theorem dL_says_68 : decode cL_says 68 = .ok (.iconst (-1), 1) := by decide +kernel
theorem dL_says_69 : decode cL_says 69 = .ok (.if_icmp .ne 265, 3) := by decide +kernel
theorem dL_says_72 : decode cL_says 72 = .ok (.aload_n 0, 1) := by decide +kernel
theorem dL_says_73 : decode cL_says 73 = .ok (.iconst 5, 1) := by decide +kernel
theorem dL_says_74 : decode cL_says 74 = .ok (.iconst 4, 1) := by decide +kernel
theorem dL_says_75 : decode cL_says 75 = .ok (.iconst 4, 1) := by decide +kernel
theorem dL_says_76 : decode cL_says 76 = .ok (.iconst 0, 1) := by decide +kernel
theorem dL_says_77 : decode cL_says 77 = .ok (.iconst 2, 1) := by decide +kernel
theorem dL_says_78 : decode cL_says 78 = .ok (.iconst 1, 1) := by decide +kernel
theorem dL_says_79 : decode cL_says 79 = .ok (.iconst 0, 1) := by decide +kernel
theorem dL_says_80 : decode cL_says 80 = .ok (.invokevirtual 72, 3) := by decide +kernel
theorem dL_says_83 : decode cL_says 83 = .ok (.iconst 1, 1) := by decide +kernel
theorem dL_says_84 : decode cL_says 84 = .ok (.if_icmp .ne 250, 3) := by decide +kernel
theorem dL_says_87 : decode cL_says 87 = .ok (.aload_n 0, 1) := by decide +kernel
theorem dL_says_88 : decode cL_says 88 = .ok (.iconst 5, 1) := by decide +kernel
theorem dL_says_89 : decode cL_says 89 = .ok (.iconst 4, 1) := by decide +kernel
theorem dL_says_90 : decode cL_says 90 = .ok (.iconst 4, 1) := by decide +kernel
theorem dL_says_91 : decode cL_says 91 = .ok (.iconst 0, 1) := by decide +kernel
theorem dL_says_92 : decode cL_says 92 = .ok (.iconst 2, 1) := by decide +kernel
theorem dL_says_93 : decode cL_says 93 = .ok (.iconst 2, 1) := by decide +kernel
theorem dL_says_94 : decode cL_says 94 = .ok (.iconst 5, 1) := by decide +kernel
theorem dL_says_95 : decode cL_says 95 = .ok (.invokevirtual 72, 3) := by decide +kernel
theorem dL_says_98 : decode cL_says 98 = .ok (.iconst 2, 1) := by decide +kernel
theorem dL_says_99 : decode cL_says 99 = .ok (.if_icmp .ne 235, 3) := by decide +kernel
theorem dL_says_102 : decode cL_says 102 = .ok (.aload_n 0, 1) := by decide +kernel
theorem dL_says_103 : decode cL_says 103 = .ok (.iconst 5, 1) := by decide +kernel
theorem dL_says_104 : decode cL_says 104 = .ok (.iconst 4, 1) := by decide +kernel
theorem dL_says_105 : decode cL_says 105 = .ok (.iconst 4, 1) := by decide +kernel
theorem dL_says_106 : decode cL_says 106 = .ok (.iconst 0, 1) := by decide +kernel
theorem dL_says_107 : decode cL_says 107 = .ok (.iconst 2, 1) := by decide +kernel
theorem dL_says_108 : decode cL_says 108 = .ok (.iconst 2, 1) := by decide +kernel
theorem dL_says_109 : decode cL_says 109 = .ok (.iconst 3, 1) := by decide +kernel
theorem dL_says_110 : decode cL_says 110 = .ok (.invokevirtual 72, 3) := by decide +kernel
theorem dL_says_113 : decode cL_says 113 = .ok (.iconst 3, 1) := by decide +kernel
theorem dL_says_114 : decode cL_says 114 = .ok (.if_icmp .ne 220, 3) := by decide +kernel
theorem dL_says_117 : decode cL_says 117 = .ok (.aload_n 0, 1) := by decide +kernel
theorem dL_says_118 : decode cL_says 118 = .ok (.iconst 5, 1) := by decide +kernel
theorem dL_says_119 : decode cL_says 119 = .ok (.iconst 4, 1) := by decide +kernel
theorem dL_says_120 : decode cL_says 120 = .ok (.iconst 4, 1) := by decide +kernel
theorem dL_says_121 : decode cL_says 121 = .ok (.iconst 0, 1) := by decide +kernel
theorem dL_says_122 : decode cL_says 122 = .ok (.iconst 2, 1) := by decide +kernel
theorem dL_says_123 : decode cL_says 123 = .ok (.iconst 2, 1) := by decide +kernel
theorem dL_says_124 : decode cL_says 124 = .ok (.iconst 4, 1) := by decide +kernel
theorem dL_says_125 : decode cL_says 125 = .ok (.invokestatic 85, 3) := by decide +kernel
theorem dL_says_128 : decode cL_says 128 = .ok (.bipush (-72), 2) := by decide +kernel
theorem dL_says_130 : decode cL_says 130 = .ok (.if_icmp .ne 204, 3) := by decide +kernel
theorem dL_says_133 : decode cL_says 133 = .ok (.aload_n 0, 1) := by decide +kernel
theorem dL_says_134 : decode cL_says 134 = .ok (.iconst 2, 1) := by decide +kernel
theorem dL_says_135 : decode cL_says 135 = .ok (.iconst 0, 1) := by decide +kernel
theorem dL_says_136 : decode cL_says 136 = .ok (.bipush 8, 2) := by decide +kernel
theorem dL_says_138 : decode cL_says 138 = .ok (.iconst 1, 1) := by decide +kernel
theorem dL_says_139 : decode cL_says 139 = .ok (.iconst 1, 1) := by decide +kernel
theorem dL_says_140 : decode cL_says 140 = .ok (.iconst 0, 1) := by decide +kernel
theorem dL_says_141 : decode cL_says 141 = .ok (.iconst 3, 1) := by decide +kernel
theorem dL_says_142 : decode cL_says 142 = .ok (.invokestatic 85, 3) := by decide +kernel
theorem dL_says_145 : decode cL_says 145 = .ok (.bipush (-73), 2) := by decide +kernel
theorem dL_says_147 : decode cL_says 147 = .ok (.if_icmp .ne 187, 3) := by decide +kernel
theorem dL_says_150 : decode cL_says 150 = .ok (.aload_n 0, 1) := by decide +kernel
theorem dL_says_151 : decode cL_says 151 = .ok (.iconst 5, 1) := by decide +kernel
theorem dL_says_152 : decode cL_says 152 = .ok (.iconst 4, 1) := by decide +kernel
theorem dL_says_153 : decode cL_says 153 = .ok (.iconst 4, 1) := by decide +kernel
theorem dL_says_154 : decode cL_says 154 = .ok (.iconst 0, 1) := by decide +kernel
theorem dL_says_155 : decode cL_says 155 = .ok (.iconst 2, 1) := by decide +kernel
theorem dL_says_156 : decode cL_says 156 = .ok (.iconst 2, 1) := by decide +kernel
theorem dL_says_157 : decode cL_says 157 = .ok (.iconst 5, 1) := by decide +kernel
theorem dL_says_158 : decode cL_says 158 = .ok (.invokestatic 85, 3) := by decide +kernel
theorem dL_says_161 : decode cL_says 161 = .ok (.bipush (-73), 2) := by decide +kernel
theorem dL_says_163 : decode cL_says 163 = .ok (.if_icmp .ne 171, 3) := by decide +kernel
theorem dL_says_166 : decode cL_says 166 = .ok (.aload_n 0, 1) := by decide +kernel
theorem dL_says_167 : decode cL_says 167 = .ok (.iconst 0, 1) := by decide +kernel
theorem dL_says_168 : decode cL_says 168 = .ok (.iconst 0, 1) := by decide +kernel
theorem dL_says_169 : decode cL_says 169 = .ok (.invokevirtual 7, 3) := by decide +kernel
theorem dL_says_172 : decode cL_says 172 = .ok (.iconst 1, 1) := by decide +kernel
theorem dL_says_173 : decode cL_says 173 = .ok (.if_icmp .ne 161, 3) := by decide +kernel
theorem dL_says_176 : decode cL_says 176 = .ok (.aload_n 0, 1) := by decide +kernel
theorem dL_says_177 : decode cL_says 177 = .ok (.iconst 0, 1) := by decide +kernel
theorem dL_says_178 : decode cL_says 178 = .ok (.iconst 1, 1) := by decide +kernel
theorem dL_says_179 : decode cL_says 179 = .ok (.invokevirtual 7, 3) := by decide +kernel
theorem dL_says_182 : decode cL_says 182 = .ok (.bipush 6, 2) := by decide +kernel
theorem dL_says_184 : decode cL_says 184 = .ok (.if_icmp .ne 150, 3) := by decide +kernel
theorem dL_says_187 : decode cL_says 187 = .ok (.aload_n 0, 1) := by decide +kernel
theorem dL_says_188 : decode cL_says 188 = .ok (.iconst 1, 1) := by decide +kernel
theorem dL_says_189 : decode cL_says 189 = .ok (.iconst 0, 1) := by decide +kernel
theorem dL_says_190 : decode cL_says 190 = .ok (.invokevirtual 7, 3) := by decide +kernel
theorem dL_says_193 : decode cL_says 193 = .ok (.iconst 2, 1) := by decide +kernel
theorem dL_says_194 : decode cL_says 194 = .ok (.if_icmp .ne 140, 3) := by decide +kernel
theorem dL_says_197 : decode cL_says 197 = .ok (.aload_n 0, 1) := by decide +kernel
theorem dL_says_198 : decode cL_says 198 = .ok (.iconst 1, 1) := by decide +kernel
theorem dL_says_199 : decode cL_says 199 = .ok (.iconst 1, 1) := by decide +kernel
theorem dL_says_200 : decode cL_says 200 = .ok (.invokevirtual 7, 3) := by decide +kernel
theorem dL_says_203 : decode cL_says 203 = .ok (.iconst 1, 1) := by decide +kernel
theorem dL_says_204 : decode cL_says 204 = .ok (.if_icmp .ne 130, 3) := by decide +kernel
theorem dL_says_207 : decode cL_says 207 = .ok (.aload_n 0, 1) := by decide +kernel
theorem dL_says_208 : decode cL_says 208 = .ok (.iconst 2, 1) := by decide +kernel
theorem dL_says_209 : decode cL_says 209 = .ok (.iconst 0, 1) := by decide +kernel
theorem dL_says_210 : decode cL_says 210 = .ok (.invokevirtual 7, 3) := by decide +kernel
theorem dL_says_213 : decode cL_says 213 = .ok (.iconst 3, 1) := by decide +kernel
theorem dL_says_214 : decode cL_says 214 = .ok (.if_icmp .ne 120, 3) := by decide +kernel
theorem dL_says_217 : decode cL_says 217 = .ok (.aload_n 0, 1) := by decide +kernel
theorem dL_says_218 : decode cL_says 218 = .ok (.iconst 2, 1) := by decide +kernel
theorem dL_says_219 : decode cL_says 219 = .ok (.iconst 1, 1) := by decide +kernel
theorem dL_says_220 : decode cL_says 220 = .ok (.invokevirtual 7, 3) := by decide +kernel
theorem dL_says_223 : decode cL_says 223 = .ok (.ifCond .ne 111, 3) := by decide +kernel
theorem dL_says_226 : decode cL_says 226 = .ok (.aload_n 0, 1) := by decide +kernel
theorem dL_says_227 : decode cL_says 227 = .ok (.iconst 0, 1) := by decide +kernel
theorem dL_says_228 : decode cL_says 228 = .ok (.iconst 0, 1) := by decide +kernel
theorem dL_says_229 : decode cL_says 229 = .ok (.invokevirtual 13, 3) := by decide +kernel
theorem dL_says_232 : decode cL_says 232 = .ok (.sipush 170, 3) := by decide +kernel
theorem dL_says_235 : decode cL_says 235 = .ok (.if_icmp .ne 99, 3) := by decide +kernel
theorem dL_says_238 : decode cL_says 238 = .ok (.aload_n 0, 1) := by decide +kernel
theorem dL_says_239 : decode cL_says 239 = .ok (.iconst 0, 1) := by decide +kernel
theorem dL_says_240 : decode cL_says 240 = .ok (.iconst 1, 1) := by decide +kernel
theorem dL_says_241 : decode cL_says 241 = .ok (.invokevirtual 13, 3) := by decide +kernel
theorem dL_says_244 : decode cL_says 244 = .ok (.bipush 111, 2) := by decide +kernel
theorem dL_says_246 : decode cL_says 246 = .ok (.if_icmp .ne 88, 3) := by decide +kernel
theorem dL_says_249 : decode cL_says 249 = .ok (.aload_n 0, 1) := by decide +kernel
theorem dL_says_250 : decode cL_says 250 = .ok (.iconst 0, 1) := by decide +kernel
theorem dL_says_251 : decode cL_says 251 = .ok (.iconst 2, 1) := by decide +kernel
theorem dL_says_252 : decode cL_says 252 = .ok (.invokevirtual 13, 3) := by decide +kernel
theorem dL_says_255 : decode cL_says 255 = .ok (.bipush 17, 2) := by decide +kernel
theorem dL_says_257 : decode cL_says 257 = .ok (.if_icmp .ne 77, 3) := by decide +kernel
theorem dL_says_260 : decode cL_says 260 = .ok (.aload_n 0, 1) := by decide +kernel
theorem dL_says_261 : decode cL_says 261 = .ok (.iconst 1, 1) := by decide +kernel
theorem dL_says_262 : decode cL_says 262 = .ok (.iconst 0, 1) := by decide +kernel
theorem dL_says_263 : decode cL_says 263 = .ok (.invokevirtual 13, 3) := by decide +kernel
theorem dL_says_266 : decode cL_says 266 = .ok (.sipush 445, 3) := by decide +kernel
theorem dL_says_269 : decode cL_says 269 = .ok (.if_icmp .ne 65, 3) := by decide +kernel
theorem dL_says_272 : decode cL_says 272 = .ok (.aload_n 0, 1) := by decide +kernel
theorem dL_says_273 : decode cL_says 273 = .ok (.iconst 1, 1) := by decide +kernel
theorem dL_says_274 : decode cL_says 274 = .ok (.iconst 1, 1) := by decide +kernel
theorem dL_says_275 : decode cL_says 275 = .ok (.invokevirtual 13, 3) := by decide +kernel
theorem dL_says_278 : decode cL_says 278 = .ok (.sipush 247, 3) := by decide +kernel
theorem dL_says_281 : decode cL_says 281 = .ok (.if_icmp .ne 53, 3) := by decide +kernel
theorem dL_says_284 : decode cL_says 284 = .ok (.aload_n 0, 1) := by decide +kernel
theorem dL_says_285 : decode cL_says 285 = .ok (.iconst 3, 1) := by decide +kernel
theorem dL_says_286 : decode cL_says 286 = .ok (.iconst 1, 1) := by decide +kernel
theorem dL_says_287 : decode cL_says 287 = .ok (.invokevirtual 13, 3) := by decide +kernel
theorem dL_says_290 : decode cL_says 290 = .ok (.sipush 248, 3) := by decide +kernel
theorem dL_says_293 : decode cL_says 293 = .ok (.if_icmp .ne 41, 3) := by decide +kernel
theorem dL_says_296 : decode cL_says 296 = .ok (.aload_n 0, 1) := by decide +kernel
theorem dL_says_297 : decode cL_says 297 = .ok (.iconst 1, 1) := by decide +kernel
theorem dL_says_298 : decode cL_says 298 = .ok (.iconst 2, 1) := by decide +kernel
theorem dL_says_299 : decode cL_says 299 = .ok (.invokevirtual 13, 3) := by decide +kernel
theorem dL_says_302 : decode cL_says 302 = .ok (.iconst 4, 1) := by decide +kernel
theorem dL_says_303 : decode cL_says 303 = .ok (.if_icmp .ne 31, 3) := by decide +kernel
theorem dL_says_306 : decode cL_says 306 = .ok (.aload_n 0, 1) := by decide +kernel
theorem dL_says_307 : decode cL_says 307 = .ok (.iconst 1, 1) := by decide +kernel
theorem dL_says_308 : decode cL_says 308 = .ok (.iconst 0, 1) := by decide +kernel
theorem dL_says_309 : decode cL_says 309 = .ok (.invokevirtual 16, 3) := by decide +kernel
theorem dL_says_312 : decode cL_says 312 = .ok (.iconst 2, 1) := by decide +kernel
theorem dL_says_313 : decode cL_says 313 = .ok (.if_icmp .ne 21, 3) := by decide +kernel
theorem dL_says_316 : decode cL_says 316 = .ok (.aload_n 0, 1) := by decide +kernel
theorem dL_says_317 : decode cL_says 317 = .ok (.iconst 0, 1) := by decide +kernel
theorem dL_says_318 : decode cL_says 318 = .ok (.iconst 1, 1) := by decide +kernel
theorem dL_says_319 : decode cL_says 319 = .ok (.invokevirtual 16, 3) := by decide +kernel
theorem dL_says_322 : decode cL_says 322 = .ok (.ifCond .ne 12, 3) := by decide +kernel
theorem dL_says_325 : decode cL_says 325 = .ok (.aload_n 0, 1) := by decide +kernel
theorem dL_says_326 : decode cL_says 326 = .ok (.iconst 0, 1) := by decide +kernel
theorem dL_says_327 : decode cL_says 327 = .ok (.iconst 0, 1) := by decide +kernel
theorem dL_says_328 : decode cL_says 328 = .ok (.invokevirtual 16, 3) := by decide +kernel
theorem dL_says_331 : decode cL_says 331 = .ok (.ifCond .eq 5, 3) := by decide +kernel
theorem dL_says_334 : decode cL_says 334 = .ok (.iconst 0, 1) := by decide +kernel
theorem dL_says_335 : decode cL_says 335 = .ok (.ireturn, 1) := by decide +kernel
theorem dL_says_336 : decode cL_says 336 = .ok (.aload_n 0, 1) := by decide +kernel
theorem dL_says_337 : decode cL_says 337 = .ok (.iconst 0, 1) := by decide +kernel
theorem dL_says_338 : decode cL_says 338 = .ok (.iconst 0, 1) := by decide +kernel
theorem dL_says_339 : decode cL_says 339 = .ok (.iconst 0, 1) := by decide +kernel
theorem dL_says_340 : decode cL_says 340 = .ok (.iconst 0, 1) := by decide +kernel
theorem dL_says_341 : decode cL_says 341 = .ok (.invokevirtual 19, 3) := by decide +kernel
theorem dL_says_344 : decode cL_says 344 = .ok (.iconst 1, 1) := by decide +kernel
theorem dL_says_345 : decode cL_says 345 = .ok (.if_icmp .ne 204, 3) := by decide +kernel
theorem dL_says_348 : decode cL_says 348 = .ok (.aload_n 0, 1) := by decide +kernel
theorem dL_says_349 : decode cL_says 349 = .ok (.iconst 3, 1) := by decide +kernel
theorem dL_says_350 : decode cL_says 350 = .ok (.iconst 2, 1) := by decide +kernel
theorem dL_says_351 : decode cL_says 351 = .ok (.iconst 0, 1) := by decide +kernel
theorem dL_says_352 : decode cL_says 352 = .ok (.iconst 0, 1) := by decide +kernel
theorem dL_says_353 : decode cL_says 353 = .ok (.iconst 0, 1) := by decide +kernel
theorem dL_says_354 : decode cL_says 354 = .ok (.invokestatic 90, 3) := by decide +kernel
theorem dL_says_357 : decode cL_says 357 = .ok (.bipush (-73), 2) := by decide +kernel
theorem dL_says_359 : decode cL_says 359 = .ok (.if_icmp .ne 190, 3) := by decide +kernel
theorem dL_says_362 : decode cL_says 362 = .ok (.aload_n 0, 1) := by decide +kernel
theorem dL_says_363 : decode cL_says 363 = .ok (.iconst 1, 1) := by decide +kernel
theorem dL_says_364 : decode cL_says 364 = .ok (.iconst 0, 1) := by decide +kernel
theorem dL_says_365 : decode cL_says 365 = .ok (.bipush 7, 2) := by decide +kernel
theorem dL_says_367 : decode cL_says 367 = .ok (.iconst 0, 1) := by decide +kernel
theorem dL_says_368 : decode cL_says 368 = .ok (.invokevirtual 19, 3) := by decide +kernel
theorem dL_says_371 : decode cL_says 371 = .ok (.iconst 2, 1) := by decide +kernel
theorem dL_says_372 : decode cL_says 372 = .ok (.if_icmp .ne 177, 3) := by decide +kernel
theorem dL_says_375 : decode cL_says 375 = .ok (.aload_n 0, 1) := by decide +kernel
theorem dL_says_376 : decode cL_says 376 = .ok (.iconst 3, 1) := by decide +kernel
theorem dL_says_377 : decode cL_says 377 = .ok (.iconst 1, 1) := by decide +kernel
theorem dL_says_378 : decode cL_says 378 = .ok (.iconst 1, 1) := by decide +kernel
theorem dL_says_379 : decode cL_says 379 = .ok (.bipush 7, 2) := by decide +kernel
theorem dL_says_381 : decode cL_says 381 = .ok (.iconst 0, 1) := by decide +kernel
theorem dL_says_382 : decode cL_says 382 = .ok (.invokestatic 90, 3) := by decide +kernel
theorem dL_says_385 : decode cL_says 385 = .ok (.bipush (-73), 2) := by decide +kernel
theorem dL_says_387 : decode cL_says 387 = .ok (.if_icmp .ne 162, 3) := by decide +kernel
theorem dL_says_390 : decode cL_says 390 = .ok (.aload_n 0, 1) := by decide +kernel
theorem dL_says_391 : decode cL_says 391 = .ok (.iconst 3, 1) := by decide +kernel
theorem dL_says_392 : decode cL_says 392 = .ok (.iconst 1, 1) := by decide +kernel
theorem dL_says_393 : decode cL_says 393 = .ok (.iconst 0, 1) := by decide +kernel
theorem dL_says_394 : decode cL_says 394 = .ok (.iconst 3, 1) := by decide +kernel
theorem dL_says_395 : decode cL_says 395 = .ok (.iconst 0, 1) := by decide +kernel
theorem dL_says_396 : decode cL_says 396 = .ok (.invokestatic 90, 3) := by decide +kernel
theorem dL_says_399 : decode cL_says 399 = .ok (.bipush (-73), 2) := by decide +kernel
theorem dL_says_401 : decode cL_says 401 = .ok (.if_icmp .ne 148, 3) := by decide +kernel
theorem dL_says_404 : decode cL_says 404 = .ok (.aload_n 0, 1) := by decide +kernel
theorem dL_says_405 : decode cL_says 405 = .ok (.iconst 1, 1) := by decide +kernel
theorem dL_says_406 : decode cL_says 406 = .ok (.iconst 1, 1) := by decide +kernel
theorem dL_says_407 : decode cL_says 407 = .ok (.iconst 2, 1) := by decide +kernel
theorem dL_says_408 : decode cL_says 408 = .ok (.iconst 0, 1) := by decide +kernel
theorem dL_says_409 : decode cL_says 409 = .ok (.invokevirtual 19, 3) := by decide +kernel
theorem dL_says_412 : decode cL_says 412 = .ok (.iconst 3, 1) := by decide +kernel
theorem dL_says_413 : decode cL_says 413 = .ok (.if_icmp .ne 136, 3) := by decide +kernel
theorem dL_says_416 : decode cL_says 416 = .ok (.aload_n 0, 1) := by decide +kernel
theorem dL_says_417 : decode cL_says 417 = .ok (.iconst 4, 1) := by decide +kernel
theorem dL_says_418 : decode cL_says 418 = .ok (.iconst 1, 1) := by decide +kernel
theorem dL_says_419 : decode cL_says 419 = .ok (.iconst 0, 1) := by decide +kernel
theorem dL_says_420 : decode cL_says 420 = .ok (.iconst 1, 1) := by decide +kernel
theorem dL_says_421 : decode cL_says 421 = .ok (.invokevirtual 19, 3) := by decide +kernel
theorem dL_says_424 : decode cL_says 424 = .ok (.iconst 4, 1) := by decide +kernel
theorem dL_says_425 : decode cL_says 425 = .ok (.if_icmp .ne 124, 3) := by decide +kernel
theorem dL_says_428 : decode cL_says 428 = .ok (.aload_n 0, 1) := by decide +kernel
theorem dL_says_429 : decode cL_says 429 = .ok (.iconst 3, 1) := by decide +kernel
theorem dL_says_430 : decode cL_says 430 = .ok (.iconst 4, 1) := by decide +kernel
theorem dL_says_431 : decode cL_says 431 = .ok (.iconst 1, 1) := by decide +kernel
theorem dL_says_432 : decode cL_says 432 = .ok (.iconst 0, 1) := by decide +kernel
theorem dL_says_433 : decode cL_says 433 = .ok (.iconst 0, 1) := by decide +kernel
theorem dL_says_434 : decode cL_says 434 = .ok (.invokestatic 90, 3) := by decide +kernel
theorem dL_says_437 : decode cL_says 437 = .ok (.bipush (-72), 2) := by decide +kernel
theorem dL_says_439 : decode cL_says 439 = .ok (.if_icmp .ne 110, 3) := by decide +kernel
theorem dL_says_442 : decode cL_says 442 = .ok (.aload_n 0, 1) := by decide +kernel
theorem dL_says_443 : decode cL_says 443 = .ok (.iconst 3, 1) := by decide +kernel
theorem dL_says_444 : decode cL_says 444 = .ok (.iconst 4, 1) := by decide +kernel
theorem dL_says_445 : decode cL_says 445 = .ok (.iconst 1, 1) := by decide +kernel
theorem dL_says_446 : decode cL_says 446 = .ok (.iconst 0, 1) := by decide +kernel
theorem dL_says_447 : decode cL_says 447 = .ok (.iconst 2, 1) := by decide +kernel
theorem dL_says_448 : decode cL_says 448 = .ok (.invokestatic 90, 3) := by decide +kernel
theorem dL_says_451 : decode cL_says 451 = .ok (.bipush (-73), 2) := by decide +kernel
theorem dL_says_453 : decode cL_says 453 = .ok (.if_icmp .ne 96, 3) := by decide +kernel
theorem dL_says_456 : decode cL_says 456 = .ok (.aload_n 0, 1) := by decide +kernel
theorem dL_says_457 : decode cL_says 457 = .ok (.iconst 3, 1) := by decide +kernel
theorem dL_says_458 : decode cL_says 458 = .ok (.iconst 0, 1) := by decide +kernel
theorem dL_says_459 : decode cL_says 459 = .ok (.iconst 0, 1) := by decide +kernel
theorem dL_says_460 : decode cL_says 460 = .ok (.iconst 0, 1) := by decide +kernel
theorem dL_says_461 : decode cL_says 461 = .ok (.invokevirtual 19, 3) := by decide +kernel
theorem dL_says_464 : decode cL_says 464 = .ok (.iconst 5, 1) := by decide +kernel
theorem dL_says_465 : decode cL_says 465 = .ok (.if_icmp .ne 84, 3) := by decide +kernel
theorem dL_says_468 : decode cL_says 468 = .ok (.aload_n 0, 1) := by decide +kernel
theorem dL_says_469 : decode cL_says 469 = .ok (.iconst 5, 1) := by decide +kernel
theorem dL_says_470 : decode cL_says 470 = .ok (.bipush 13, 2) := by decide +kernel
theorem dL_says_472 : decode cL_says 472 = .ok (.iconst 0, 1) := by decide +kernel
theorem dL_says_473 : decode cL_says 473 = .ok (.iconst 0, 1) := by decide +kernel
theorem dL_says_474 : decode cL_says 474 = .ok (.invokevirtual 19, 3) := by decide +kernel
theorem dL_says_477 : decode cL_says 477 = .ok (.bipush 6, 2) := by decide +kernel
theorem dL_says_479 : decode cL_says 479 = .ok (.if_icmp .ne 70, 3) := by decide +kernel
theorem dL_says_482 : decode cL_says 482 = .ok (.aload_n 0, 1) := by decide +kernel
theorem dL_says_483 : decode cL_says 483 = .ok (.iconst 5, 1) := by decide +kernel
theorem dL_says_484 : decode cL_says 484 = .ok (.bipush 13, 2) := by decide +kernel
theorem dL_says_486 : decode cL_says 486 = .ok (.iconst 0, 1) := by decide +kernel
theorem dL_says_487 : decode cL_says 487 = .ok (.iconst 0, 1) := by decide +kernel
theorem dL_says_488 : decode cL_says 488 = .ok (.invokevirtual 19, 3) := by decide +kernel
theorem dL_says_491 : decode cL_says 491 = .ok (.bipush 7, 2) := by decide +kernel
theorem dL_says_493 : decode cL_says 493 = .ok (.if_icmp .ne 56, 3) := by decide +kernel
theorem dL_says_496 : decode cL_says 496 = .ok (.aload_n 0, 1) := by decide +kernel
theorem dL_says_497 : decode cL_says 497 = .ok (.iconst 0, 1) := by decide +kernel
theorem dL_says_498 : decode cL_says 498 = .ok (.iconst 0, 1) := by decide +kernel
theorem dL_says_499 : decode cL_says 499 = .ok (.invokevirtual 30, 3) := by decide +kernel
theorem dL_says_502 : decode cL_says 502 = .ok (.iconst (-1), 1) := by decide +kernel
theorem dL_says_503 : decode cL_says 503 = .ok (.if_icmp .ne 46, 3) := by decide +kernel
theorem dL_says_506 : decode cL_says 506 = .ok (.aload_n 0, 1) := by decide +kernel
theorem dL_says_507 : decode cL_says 507 = .ok (.iconst 1, 1) := by decide +kernel
theorem dL_says_508 : decode cL_says 508 = .ok (.iconst 0, 1) := by decide +kernel
theorem dL_says_509 : decode cL_says 509 = .ok (.invokevirtual 30, 3) := by decide +kernel
theorem dL_says_512 : decode cL_says 512 = .ok (.bipush 7, 2) := by decide +kernel
theorem dL_says_514 : decode cL_says 514 = .ok (.if_icmp .ne 35, 3) := by decide +kernel
theorem dL_says_517 : decode cL_says 517 = .ok (.aload_n 0, 1) := by decide +kernel
theorem dL_says_518 : decode cL_says 518 = .ok (.iconst 3, 1) := by decide +kernel
theorem dL_says_519 : decode cL_says 519 = .ok (.iconst 0, 1) := by decide +kernel
theorem dL_says_520 : decode cL_says 520 = .ok (.invokevirtual 30, 3) := by decide +kernel
theorem dL_says_523 : decode cL_says 523 = .ok (.bipush 7, 2) := by decide +kernel
theorem dL_says_525 : decode cL_says 525 = .ok (.if_icmp .ne 24, 3) := by decide +kernel
theorem dL_says_528 : decode cL_says 528 = .ok (.aload_n 0, 1) := by decide +kernel
theorem dL_says_529 : decode cL_says 529 = .ok (.iconst 4, 1) := by decide +kernel
theorem dL_says_530 : decode cL_says 530 = .ok (.iconst 0, 1) := by decide +kernel
theorem dL_says_531 : decode cL_says 531 = .ok (.invokevirtual 30, 3) := by decide +kernel
theorem dL_says_534 : decode cL_says 534 = .ok (.iconst (-1), 1) := by decide +kernel
theorem dL_says_535 : decode cL_says 535 = .ok (.if_icmp .ne 14, 3) := by decide +kernel
theorem dL_says_538 : decode cL_says 538 = .ok (.aload_n 0, 1) := by decide +kernel
theorem dL_says_539 : decode cL_says 539 = .ok (.bipush 6, 2) := by decide +kernel
theorem dL_says_541 : decode cL_says 541 = .ok (.iconst 1, 1) := by decide +kernel
theorem dL_says_542 : decode cL_says 542 = .ok (.invokevirtual 30, 3) := by decide +kernel
theorem dL_says_545 : decode cL_says 545 = .ok (.iconst 2, 1) := by decide +kernel
theorem dL_says_546 : decode cL_says 546 = .ok (.if_icmp .eq 5, 3) := by decide +kernel
theorem dL_says_549 : decode cL_says 549 = .ok (.iconst 0, 1) := by decide +kernel
theorem dL_says_550 : decode cL_says 550 = .ok (.ireturn, 1) := by decide +kernel
theorem dL_says_551 : decode cL_says 551 = .ok (.bipush 7, 2) := by decide +kernel
theorem dL_says_553 : decode cL_says 553 = .ok (.newarray .int, 2) := by decide +kernel
theorem dL_says_555 : decode cL_says 555 = .ok (.astore_n 1, 1) := by decide +kernel
theorem dL_says_556 : decode cL_says 556 = .ok (.bipush 7, 2) := by decide +kernel
theorem dL_says_558 : decode cL_says 558 = .ok (.newarray .int, 2) := by decide +kernel
theorem dL_says_560 : decode cL_says 560 = .ok (.astore_n 2, 1) := by decide +kernel
theorem dL_says_561 : decode cL_says 561 = .ok (.iconst 1, 1) := by decide +kernel
theorem dL_says_562 : decode cL_says 562 = .ok (.istore_n 3, 1) := by decide +kernel
theorem dL_says_563 : decode cL_says 563 = .ok (.iload_n 3, 1) := by decide +kernel
theorem dL_says_564 : decode cL_says 564 = .ok (.bipush 7, 2) := by decide +kernel
theorem dL_says_566 : decode cL_says 566 = .ok (.if_icmp .ge 21, 3) := by decide +kernel
theorem dL_says_569 : decode cL_says 569 = .ok (.aload_n 1, 1) := by decide +kernel
theorem dL_says_570 : decode cL_says 570 = .ok (.iload_n 3, 1) := by decide +kernel
theorem dL_says_571 : decode cL_says 571 = .ok (.aload_n 0, 1) := by decide +kernel
theorem dL_says_572 : decode cL_says 572 = .ok (.iload_n 3, 1) := by decide +kernel
theorem dL_says_573 : decode cL_says 573 = .ok (.iconst 1, 1) := by decide +kernel
theorem dL_says_574 : decode cL_says 574 = .ok (.isub, 1) := by decide +kernel
theorem dL_says_575 : decode cL_says 575 = .ok (.bipush 8, 2) := by decide +kernel
theorem dL_says_577 : decode cL_says 577 = .ok (.invokevirtual 41, 3) := by decide +kernel
theorem dL_says_580 : decode cL_says 580 = .ok (.iastore, 1) := by decide +kernel
theorem dL_says_581 : decode cL_says 581 = .ok (.iinc 3 1, 3) := by decide +kernel
theorem dL_says_584 : decode cL_says 584 = .ok (.goto (-21), 3) := by decide +kernel
theorem dL_says_587 : decode cL_says 587 = .ok (.iconst 0, 1) := by decide +kernel
theorem dL_says_588 : decode cL_says 588 = .ok (.istore_n 3, 1) := by decide +kernel
theorem dL_says_589 : decode cL_says 589 = .ok (.iload_n 3, 1) := by decide +kernel
theorem dL_says_590 : decode cL_says 590 = .ok (.bipush 7, 2) := by decide +kernel
theorem dL_says_592 : decode cL_says 592 = .ok (.if_icmp .ge 19, 3) := by decide +kernel
theorem dL_says_595 : decode cL_says 595 = .ok (.aload_n 2, 1) := by decide +kernel
theorem dL_says_596 : decode cL_says 596 = .ok (.iload_n 3, 1) := by decide +kernel
theorem dL_says_597 : decode cL_says 597 = .ok (.aload_n 0, 1) := by decide +kernel
theorem dL_says_598 : decode cL_says 598 = .ok (.iload_n 3, 1) := by decide +kernel
theorem dL_says_599 : decode cL_says 599 = .ok (.bipush 7, 2) := by decide +kernel
theorem dL_says_601 : decode cL_says 601 = .ok (.invokevirtual 41, 3) := by decide +kernel
theorem dL_says_604 : decode cL_says 604 = .ok (.iastore, 1) := by decide +kernel
theorem dL_says_605 : decode cL_says 605 = .ok (.iinc 3 1, 3) := by decide +kernel
theorem dL_says_608 : decode cL_says 608 = .ok (.goto (-19), 3) := by decide +kernel
theorem dL_says_611 : decode cL_says 611 = .ok (.aload_n 1, 1) := by decide +kernel
theorem dL_says_612 : decode cL_says 612 = .ok (.iconst 1, 1) := by decide +kernel
theorem dL_says_613 : decode cL_says 613 = .ok (.iaload, 1) := by decide +kernel
theorem dL_says_614 : decode cL_says 614 = .ok (.bipush 8, 2) := by decide +kernel
theorem dL_says_616 : decode cL_says 616 = .ok (.if_icmp .ne 440, 3) := by decide +kernel
theorem dL_says_619 : decode cL_says 619 = .ok (.aload_n 2, 1) := by decide +kernel
theorem dL_says_620 : decode cL_says 620 = .ok (.iconst 1, 1) := by decide +kernel
theorem dL_says_621 : decode cL_says 621 = .ok (.iaload, 1) := by decide +kernel
theorem dL_says_622 : decode cL_says 622 = .ok (.bipush 11, 2) := by decide +kernel
theorem dL_says_624 : decode cL_says 624 = .ok (.if_icmp .ne 432, 3) := by decide +kernel
theorem dL_says_627 : decode cL_says 627 = .ok (.aload_n 1, 1) := by decide +kernel
theorem dL_says_628 : decode cL_says 628 = .ok (.iconst 2, 1) := by decide +kernel
theorem dL_says_629 : decode cL_says 629 = .ok (.iaload, 1) := by decide +kernel
theorem dL_says_630 : decode cL_says 630 = .ok (.bipush 14, 2) := by decide +kernel
theorem dL_says_632 : decode cL_says 632 = .ok (.if_icmp .ne 424, 3) := by decide +kernel
theorem dL_says_635 : decode cL_says 635 = .ok (.aload_n 2, 1) := by decide +kernel
theorem dL_says_636 : decode cL_says 636 = .ok (.iconst 2, 1) := by decide +kernel
theorem dL_says_637 : decode cL_says 637 = .ok (.iaload, 1) := by decide +kernel
theorem dL_says_638 : decode cL_says 638 = .ok (.bipush 16, 2) := by decide +kernel
theorem dL_says_640 : decode cL_says 640 = .ok (.if_icmp .ne 416, 3) := by decide +kernel
theorem dL_says_643 : decode cL_says 643 = .ok (.aload_n 1, 1) := by decide +kernel
theorem dL_says_644 : decode cL_says 644 = .ok (.iconst 3, 1) := by decide +kernel
theorem dL_says_645 : decode cL_says 645 = .ok (.iaload, 1) := by decide +kernel
theorem dL_says_646 : decode cL_says 646 = .ok (.bipush 19, 2) := by decide +kernel
theorem dL_says_648 : decode cL_says 648 = .ok (.if_icmp .ne 408, 3) := by decide +kernel
theorem dL_says_651 : decode cL_says 651 = .ok (.aload_n 2, 1) := by decide +kernel
theorem dL_says_652 : decode cL_says 652 = .ok (.iconst 3, 1) := by decide +kernel
theorem dL_says_653 : decode cL_says 653 = .ok (.iaload, 1) := by decide +kernel
theorem dL_says_654 : decode cL_says 654 = .ok (.bipush 21, 2) := by decide +kernel
theorem dL_says_656 : decode cL_says 656 = .ok (.if_icmp .ne 400, 3) := by decide +kernel
theorem dL_says_659 : decode cL_says 659 = .ok (.aload_n 1, 1) := by decide +kernel
theorem dL_says_660 : decode cL_says 660 = .ok (.iconst 4, 1) := by decide +kernel
theorem dL_says_661 : decode cL_says 661 = .ok (.iaload, 1) := by decide +kernel
theorem dL_says_662 : decode cL_says 662 = .ok (.bipush 27, 2) := by decide +kernel
theorem dL_says_664 : decode cL_says 664 = .ok (.if_icmp .ne 392, 3) := by decide +kernel
theorem dL_says_667 : decode cL_says 667 = .ok (.aload_n 2, 1) := by decide +kernel
theorem dL_says_668 : decode cL_says 668 = .ok (.iconst 4, 1) := by decide +kernel
theorem dL_says_669 : decode cL_says 669 = .ok (.iaload, 1) := by decide +kernel
theorem dL_says_670 : decode cL_says 670 = .ok (.bipush 29, 2) := by decide +kernel
theorem dL_says_672 : decode cL_says 672 = .ok (.if_icmp .ne 384, 3) := by decide +kernel
theorem dL_says_675 : decode cL_says 675 = .ok (.aload_n 1, 1) := by decide +kernel
theorem dL_says_676 : decode cL_says 676 = .ok (.iconst 5, 1) := by decide +kernel
theorem dL_says_677 : decode cL_says 677 = .ok (.iaload, 1) := by decide +kernel
theorem dL_says_678 : decode cL_says 678 = .ok (.bipush 32, 2) := by decide +kernel
theorem dL_says_680 : decode cL_says 680 = .ok (.if_icmp .ne 376, 3) := by decide +kernel
theorem dL_says_683 : decode cL_says 683 = .ok (.aload_n 2, 1) := by decide +kernel
theorem dL_says_684 : decode cL_says 684 = .ok (.iconst 5, 1) := by decide +kernel
theorem dL_says_685 : decode cL_says 685 = .ok (.iaload, 1) := by decide +kernel
theorem dL_says_686 : decode cL_says 686 = .ok (.bipush 33, 2) := by decide +kernel
theorem dL_says_688 : decode cL_says 688 = .ok (.if_icmp .ne 368, 3) := by decide +kernel
theorem dL_says_691 : decode cL_says 691 = .ok (.aload_n 1, 1) := by decide +kernel
theorem dL_says_692 : decode cL_says 692 = .ok (.bipush 6, 2) := by decide +kernel
theorem dL_says_694 : decode cL_says 694 = .ok (.iaload, 1) := by decide +kernel
theorem dL_says_695 : decode cL_says 695 = .ok (.bipush 36, 2) := by decide +kernel
theorem dL_says_697 : decode cL_says 697 = .ok (.if_icmp .ne 359, 3) := by decide +kernel
theorem dL_says_700 : decode cL_says 700 = .ok (.aload_n 2, 1) := by decide +kernel
theorem dL_says_701 : decode cL_says 701 = .ok (.bipush 6, 2) := by decide +kernel
theorem dL_says_703 : decode cL_says 703 = .ok (.iaload, 1) := by decide +kernel
theorem dL_says_704 : decode cL_says 704 = .ok (.bipush 36, 2) := by decide +kernel
theorem dL_says_706 : decode cL_says 706 = .ok (.if_icmp .ne 350, 3) := by decide +kernel
theorem dL_says_709 : decode cL_says 709 = .ok (.aload_n 0, 1) := by decide +kernel
theorem dL_says_710 : decode cL_says 710 = .ok (.bipush 6, 2) := by decide +kernel
theorem dL_says_712 : decode cL_says 712 = .ok (.bipush 8, 2) := by decide +kernel
theorem dL_says_714 : decode cL_says 714 = .ok (.invokevirtual 41, 3) := by decide +kernel
theorem dL_says_717 : decode cL_says 717 = .ok (.bipush 39, 2) := by decide +kernel
theorem dL_says_719 : decode cL_says 719 = .ok (.if_icmp .ne 337, 3) := by decide +kernel
theorem dL_says_722 : decode cL_says 722 = .ok (.aload_n 0, 1) := by decide +kernel
theorem dL_says_723 : decode cL_says 723 = .ok (.bipush 6, 2) := by decide +kernel
theorem dL_says_725 : decode cL_says 725 = .ok (.bipush 6, 2) := by decide +kernel
theorem dL_says_727 : decode cL_says 727 = .ok (.invokevirtual 41, 3) := by decide +kernel
theorem dL_says_730 : decode cL_says 730 = .ok (.bipush 36, 2) := by decide +kernel
theorem dL_says_732 : decode cL_says 732 = .ok (.if_icmp .ne 324, 3) := by decide +kernel
theorem dL_says_735 : decode cL_says 735 = .ok (.aload_n 0, 1) := by decide +kernel
theorem dL_says_736 : decode cL_says 736 = .ok (.iconst 3, 1) := by decide +kernel
theorem dL_says_737 : decode cL_says 737 = .ok (.iconst 1, 1) := by decide +kernel
theorem dL_says_738 : decode cL_says 738 = .ok (.invokevirtual 41, 3) := by decide +kernel
theorem dL_says_741 : decode cL_says 741 = .ok (.iconst 3, 1) := by decide +kernel
theorem dL_says_742 : decode cL_says 742 = .ok (.if_icmp .ne 314, 3) := by decide +kernel
theorem dL_says_745 : decode cL_says 745 = .ok (.aload_n 0, 1) := by decide +kernel
theorem dL_says_746 : decode cL_says 746 = .ok (.iconst 3, 1) := by decide +kernel
theorem dL_says_747 : decode cL_says 747 = .ok (.iconst 2, 1) := by decide +kernel
theorem dL_says_748 : decode cL_says 748 = .ok (.invokevirtual 41, 3) := by decide +kernel
theorem dL_says_751 : decode cL_says 751 = .ok (.iconst 5, 1) := by decide +kernel
theorem dL_says_752 : decode cL_says 752 = .ok (.if_icmp .ne 304, 3) := by decide +kernel
theorem dL_says_755 : decode cL_says 755 = .ok (.aload_n 0, 1) := by decide +kernel
theorem dL_says_756 : decode cL_says 756 = .ok (.iconst 3, 1) := by decide +kernel
theorem dL_says_757 : decode cL_says 757 = .ok (.iconst 5, 1) := by decide +kernel
theorem dL_says_758 : decode cL_says 758 = .ok (.invokevirtual 41, 3) := by decide +kernel
theorem dL_says_761 : decode cL_says 761 = .ok (.iconst 1, 1) := by decide +kernel
theorem dL_says_762 : decode cL_says 762 = .ok (.if_icmp .ne 294, 3) := by decide +kernel
theorem dL_says_765 : decode cL_says 765 = .ok (.aload_n 0, 1) := by decide +kernel
theorem dL_says_766 : decode cL_says 766 = .ok (.iconst 3, 1) := by decide +kernel
theorem dL_says_767 : decode cL_says 767 = .ok (.iconst 4, 1) := by decide +kernel
theorem dL_says_768 : decode cL_says 768 = .ok (.invokevirtual 41, 3) := by decide +kernel
theorem dL_says_771 : decode cL_says 771 = .ok (.iconst 2, 1) := by decide +kernel
theorem dL_says_772 : decode cL_says 772 = .ok (.if_icmp .ne 284, 3) := by decide +kernel
theorem dL_says_775 : decode cL_says 775 = .ok (.aload_n 0, 1) := by decide +kernel
theorem dL_says_776 : decode cL_says 776 = .ok (.iconst 0, 1) := by decide +kernel
theorem dL_says_777 : decode cL_says 777 = .ok (.iconst 1, 1) := by decide +kernel
theorem dL_says_778 : decode cL_says 778 = .ok (.invokevirtual 44, 3) := by decide +kernel
theorem dL_says_781 : decode cL_says 781 = .ok (.ifCond .ne 275, 3) := by decide +kernel
theorem dL_says_784 : decode cL_says 784 = .ok (.aload_n 0, 1) := by decide +kernel
theorem dL_says_785 : decode cL_says 785 = .ok (.iconst 1, 1) := by decide +kernel
theorem dL_says_786 : decode cL_says 786 = .ok (.iconst 1, 1) := by decide +kernel
theorem dL_says_787 : decode cL_says 787 = .ok (.invokevirtual 44, 3) := by decide +kernel
theorem dL_says_790 : decode cL_says 790 = .ok (.ifCond .ne 266, 3) := by decide +kernel
theorem dL_says_793 : decode cL_says 793 = .ok (.aload_n 0, 1) := by decide +kernel
theorem dL_says_794 : decode cL_says 794 = .ok (.iconst 2, 1) := by decide +kernel
theorem dL_says_795 : decode cL_says 795 = .ok (.iconst 1, 1) := by decide +kernel
theorem dL_says_796 : decode cL_says 796 = .ok (.invokevirtual 44, 3) := by decide +kernel
theorem dL_says_799 : decode cL_says 799 = .ok (.iconst 1, 1) := by decide +kernel
theorem dL_says_800 : decode cL_says 800 = .ok (.if_icmp .ne 256, 3) := by decide +kernel
theorem dL_says_803 : decode cL_says 803 = .ok (.aload_n 0, 1) := by decide +kernel
theorem dL_says_804 : decode cL_says 804 = .ok (.iconst 3, 1) := by decide +kernel
theorem dL_says_805 : decode cL_says 805 = .ok (.iconst 1, 1) := by decide +kernel
theorem dL_says_806 : decode cL_says 806 = .ok (.invokevirtual 44, 3) := by decide +kernel
theorem dL_says_809 : decode cL_says 809 = .ok (.iconst 2, 1) := by decide +kernel
theorem dL_says_810 : decode cL_says 810 = .ok (.if_icmp .ne 246, 3) := by decide +kernel
theorem dL_says_813 : decode cL_says 813 = .ok (.aload_n 0, 1) := by decide +kernel
theorem dL_says_814 : decode cL_says 814 = .ok (.iconst 4, 1) := by decide +kernel
theorem dL_says_815 : decode cL_says 815 = .ok (.iconst 1, 1) := by decide +kernel
theorem dL_says_816 : decode cL_says 816 = .ok (.invokevirtual 44, 3) := by decide +kernel
theorem dL_says_819 : decode cL_says 819 = .ok (.iconst 5, 1) := by decide +kernel
theorem dL_says_820 : decode cL_says 820 = .ok (.if_icmp .ne 236, 3) := by decide +kernel
theorem dL_says_823 : decode cL_says 823 = .ok (.aload_n 0, 1) := by decide +kernel
theorem dL_says_824 : decode cL_says 824 = .ok (.iconst 5, 1) := by decide +kernel
theorem dL_says_825 : decode cL_says 825 = .ok (.iconst 1, 1) := by decide +kernel
theorem dL_says_826 : decode cL_says 826 = .ok (.invokevirtual 44, 3) := by decide +kernel
theorem dL_says_829 : decode cL_says 829 = .ok (.bipush 8, 2) := by decide +kernel
theorem dL_says_831 : decode cL_says 831 = .ok (.if_icmp .ne 225, 3) := by decide +kernel
theorem dL_says_834 : decode cL_says 834 = .ok (.aload_n 0, 1) := by decide +kernel
theorem dL_says_835 : decode cL_says 835 = .ok (.bipush 7, 2) := by decide +kernel
theorem dL_says_837 : decode cL_says 837 = .ok (.iconst 1, 1) := by decide +kernel
theorem dL_says_838 : decode cL_says 838 = .ok (.invokevirtual 44, 3) := by decide +kernel
theorem dL_says_841 : decode cL_says 841 = .ok (.bipush 8, 2) := by decide +kernel
theorem dL_says_843 : decode cL_says 843 = .ok (.if_icmp .ne 213, 3) := by decide +kernel
theorem dL_says_846 : decode cL_says 846 = .ok (.aload_n 0, 1) := by decide +kernel
theorem dL_says_847 : decode cL_says 847 = .ok (.bipush 7, 2) := by decide +kernel
theorem dL_says_849 : decode cL_says 849 = .ok (.iconst 0, 1) := by decide +kernel
theorem dL_says_850 : decode cL_says 850 = .ok (.invokevirtual 44, 3) := by decide +kernel
theorem dL_says_853 : decode cL_says 853 = .ok (.iconst 2, 1) := by decide +kernel
theorem dL_says_854 : decode cL_says 854 = .ok (.if_icmp .ne 202, 3) := by decide +kernel
theorem dL_says_857 : decode cL_says 857 = .ok (.aload_n 0, 1) := by decide +kernel
theorem dL_says_858 : decode cL_says 858 = .ok (.bipush 7, 2) := by decide +kernel
theorem dL_says_860 : decode cL_says 860 = .ok (.iconst 2, 1) := by decide +kernel
theorem dL_says_861 : decode cL_says 861 = .ok (.invokevirtual 44, 3) := by decide +kernel
theorem dL_says_864 : decode cL_says 864 = .ok (.iconst 1, 1) := by decide +kernel
theorem dL_says_865 : decode cL_says 865 = .ok (.if_icmp .ne 191, 3) := by decide +kernel
theorem dL_says_868 : decode cL_says 868 = .ok (.aload_n 0, 1) := by decide +kernel
theorem dL_says_869 : decode cL_says 869 = .ok (.bipush 8, 2) := by decide +kernel
theorem dL_says_871 : decode cL_says 871 = .ok (.iconst 1, 1) := by decide +kernel
theorem dL_says_872 : decode cL_says 872 = .ok (.invokevirtual 44, 3) := by decide +kernel
theorem dL_says_875 : decode cL_says 875 = .ok (.bipush 7, 2) := by decide +kernel
theorem dL_says_877 : decode cL_says 877 = .ok (.if_icmp .ne 179, 3) := by decide +kernel
theorem dL_says_880 : decode cL_says 880 = .ok (.aload_n 0, 1) := by decide +kernel
theorem dL_says_881 : decode cL_says 881 = .ok (.bipush 9, 2) := by decide +kernel
theorem dL_says_883 : decode cL_says 883 = .ok (.iconst 1, 1) := by decide +kernel
theorem dL_says_884 : decode cL_says 884 = .ok (.invokevirtual 44, 3) := by decide +kernel
theorem dL_says_887 : decode cL_says 887 = .ok (.bipush 6, 2) := by decide +kernel
theorem dL_says_889 : decode cL_says 889 = .ok (.if_icmp .ne 167, 3) := by decide +kernel
theorem dL_says_892 : decode cL_says 892 = .ok (.aload_n 0, 1) := by decide +kernel
theorem dL_says_893 : decode cL_says 893 = .ok (.bipush 10, 2) := by decide +kernel
theorem dL_says_895 : decode cL_says 895 = .ok (.iconst 1, 1) := by decide +kernel
theorem dL_says_896 : decode cL_says 896 = .ok (.invokevirtual 44, 3) := by decide +kernel
theorem dL_says_899 : decode cL_says 899 = .ok (.iconst 3, 1) := by decide +kernel
theorem dL_says_900 : decode cL_says 900 = .ok (.if_icmp .ne 156, 3) := by decide +kernel
theorem dL_says_903 : decode cL_says 903 = .ok (.aload_n 0, 1) := by decide +kernel
theorem dL_says_904 : decode cL_says 904 = .ok (.bipush 8, 2) := by decide +kernel
theorem dL_says_906 : decode cL_says 906 = .ok (.iconst 0, 1) := by decide +kernel
theorem dL_says_907 : decode cL_says 907 = .ok (.invokevirtual 44, 3) := by decide +kernel
theorem dL_says_910 : decode cL_says 910 = .ok (.iconst 1, 1) := by decide +kernel
theorem dL_says_911 : decode cL_says 911 = .ok (.if_icmp .ne 145, 3) := by decide +kernel
theorem dL_says_914 : decode cL_says 914 = .ok (.aload_n 0, 1) := by decide +kernel
theorem dL_says_915 : decode cL_says 915 = .ok (.bipush 8, 2) := by decide +kernel
theorem dL_says_917 : decode cL_says 917 = .ok (.iconst 2, 1) := by decide +kernel
theorem dL_says_918 : decode cL_says 918 = .ok (.invokevirtual 44, 3) := by decide +kernel
theorem dL_says_921 : decode cL_says 921 = .ok (.ifCond .ne 135, 3) := by decide +kernel
theorem dL_says_924 : decode cL_says 924 = .ok (.aload_n 0, 1) := by decide +kernel
theorem dL_says_925 : decode cL_says 925 = .ok (.bipush 8, 2) := by decide +kernel
theorem dL_says_927 : decode cL_says 927 = .ok (.bipush 7, 2) := by decide +kernel
theorem dL_says_929 : decode cL_says 929 = .ok (.invokevirtual 44, 3) := by decide +kernel
theorem dL_says_932 : decode cL_says 932 = .ok (.iconst 1, 1) := by decide +kernel
theorem dL_says_933 : decode cL_says 933 = .ok (.if_icmp .ne 123, 3) := by decide +kernel
theorem dL_says_936 : decode cL_says 936 = .ok (.aload_n 0, 1) := by decide +kernel
theorem dL_says_937 : decode cL_says 937 = .ok (.bipush 8, 2) := by decide +kernel
theorem dL_says_939 : decode cL_says 939 = .ok (.iconst 3, 1) := by decide +kernel
theorem dL_says_940 : decode cL_says 940 = .ok (.invokevirtual 44, 3) := by decide +kernel
theorem dL_says_943 : decode cL_says 943 = .ok (.ifCond .ne 113, 3) := by decide +kernel
theorem dL_says_946 : decode cL_says 946 = .ok (.aload_n 0, 1) := by decide +kernel
theorem dL_says_947 : decode cL_says 947 = .ok (.bipush 11, 2) := by decide +kernel
theorem dL_says_949 : decode cL_says 949 = .ok (.iconst 1, 1) := by decide +kernel
theorem dL_says_950 : decode cL_says 950 = .ok (.invokevirtual 44, 3) := by decide +kernel
theorem dL_says_953 : decode cL_says 953 = .ok (.iconst 3, 1) := by decide +kernel
theorem dL_says_954 : decode cL_says 954 = .ok (.if_icmp .ne 102, 3) := by decide +kernel
theorem dL_says_957 : decode cL_says 957 = .ok (.aload_n 0, 1) := by decide +kernel
theorem dL_says_958 : decode cL_says 958 = .ok (.bipush 22, 2) := by decide +kernel
theorem dL_says_960 : decode cL_says 960 = .ok (.iconst 1, 1) := by decide +kernel
theorem dL_says_961 : decode cL_says 961 = .ok (.invokevirtual 44, 3) := by decide +kernel
theorem dL_says_964 : decode cL_says 964 = .ok (.iconst 3, 1) := by decide +kernel
theorem dL_says_965 : decode cL_says 965 = .ok (.if_icmp .ne 91, 3) := by decide +kernel
theorem dL_says_968 : decode cL_says 968 = .ok (.aload_n 0, 1) := by decide +kernel
theorem dL_says_969 : decode cL_says 969 = .ok (.bipush 22, 2) := by decide +kernel
theorem dL_says_971 : decode cL_says 971 = .ok (.iconst 2, 1) := by decide +kernel
theorem dL_says_972 : decode cL_says 972 = .ok (.invokevirtual 44, 3) := by decide +kernel
theorem dL_says_975 : decode cL_says 975 = .ok (.ifCond .ne 81, 3) := by decide +kernel
theorem dL_says_978 : decode cL_says 978 = .ok (.aload_n 0, 1) := by decide +kernel
theorem dL_says_979 : decode cL_says 979 = .ok (.bipush 23, 2) := by decide +kernel
theorem dL_says_981 : decode cL_says 981 = .ok (.iconst 1, 1) := by decide +kernel
theorem dL_says_982 : decode cL_says 982 = .ok (.invokevirtual 44, 3) := by decide +kernel
theorem dL_says_985 : decode cL_says 985 = .ok (.iconst 4, 1) := by decide +kernel
theorem dL_says_986 : decode cL_says 986 = .ok (.if_icmp .ne 70, 3) := by decide +kernel
theorem dL_says_989 : decode cL_says 989 = .ok (.aload_n 0, 1) := by decide +kernel
theorem dL_says_990 : decode cL_says 990 = .ok (.bipush 23, 2) := by decide +kernel
theorem dL_says_992 : decode cL_says 992 = .ok (.iconst 2, 1) := by decide +kernel
theorem dL_says_993 : decode cL_says 993 = .ok (.invokevirtual 44, 3) := by decide +kernel
theorem dL_says_996 : decode cL_says 996 = .ok (.iconst 2, 1) := by decide +kernel
theorem dL_says_997 : decode cL_says 997 = .ok (.if_icmp .ne 59, 3) := by decide +kernel
theorem dL_says_1000 : decode cL_says 1000 = .ok (.aload_n 0, 1) := by decide +kernel
theorem dL_says_1001 : decode cL_says 1001 = .ok (.bipush 23, 2) := by decide +kernel
theorem dL_says_1003 : decode cL_says 1003 = .ok (.iconst 3, 1) := by decide +kernel
theorem dL_says_1004 : decode cL_says 1004 = .ok (.invokevirtual 44, 3) := by decide +kernel
theorem dL_says_1007 : decode cL_says 1007 = .ok (.iconst 1, 1) := by decide +kernel
theorem dL_says_1008 : decode cL_says 1008 = .ok (.if_icmp .ne 48, 3) := by decide +kernel
theorem dL_says_1011 : decode cL_says 1011 = .ok (.aload_n 0, 1) := by decide +kernel
theorem dL_says_1012 : decode cL_says 1012 = .ok (.bipush 24, 2) := by decide +kernel
theorem dL_says_1014 : decode cL_says 1014 = .ok (.iconst 1, 1) := by decide +kernel
theorem dL_says_1015 : decode cL_says 1015 = .ok (.invokevirtual 44, 3) := by decide +kernel
theorem dL_says_1018 : decode cL_says 1018 = .ok (.iconst 5, 1) := by decide +kernel
theorem dL_says_1019 : decode cL_says 1019 = .ok (.if_icmp .ne 37, 3) := by decide +kernel
theorem dL_says_1022 : decode cL_says 1022 = .ok (.aload_n 0, 1) := by decide +kernel
theorem dL_says_1023 : decode cL_says 1023 = .ok (.bipush 26, 2) := by decide +kernel
theorem dL_says_1025 : decode cL_says 1025 = .ok (.iconst 1, 1) := by decide +kernel
theorem dL_says_1026 : decode cL_says 1026 = .ok (.invokevirtual 44, 3) := by decide +kernel
theorem dL_says_1029 : decode cL_says 1029 = .ok (.iconst 5, 1) := by decide +kernel
theorem dL_says_1030 : decode cL_says 1030 = .ok (.if_icmp .ne 26, 3) := by decide +kernel
theorem dL_says_1033 : decode cL_says 1033 = .ok (.aload_n 0, 1) := by decide +kernel
theorem dL_says_1034 : decode cL_says 1034 = .ok (.bipush 19, 2) := by decide +kernel
theorem dL_says_1036 : decode cL_says 1036 = .ok (.iconst 3, 1) := by decide +kernel
theorem dL_says_1037 : decode cL_says 1037 = .ok (.invokevirtual 44, 3) := by decide +kernel
theorem dL_says_1040 : decode cL_says 1040 = .ok (.ifCond .ne 16, 3) := by decide +kernel
theorem dL_says_1043 : decode cL_says 1043 = .ok (.aload_n 0, 1) := by decide +kernel
theorem dL_says_1044 : decode cL_says 1044 = .ok (.bipush 38, 2) := by decide +kernel
theorem dL_says_1046 : decode cL_says 1046 = .ok (.bipush 7, 2) := by decide +kernel
theorem dL_says_1048 : decode cL_says 1048 = .ok (.invokevirtual 44, 3) := by decide +kernel
theorem dL_says_1051 : decode cL_says 1051 = .ok (.bipush 6, 2) := by decide +kernel
theorem dL_says_1053 : decode cL_says 1053 = .ok (.if_icmp .eq 5, 3) := by decide +kernel
theorem dL_says_1056 : decode cL_says 1056 = .ok (.iconst 0, 1) := by decide +kernel
theorem dL_says_1057 : decode cL_says 1057 = .ok (.ireturn, 1) := by decide +kernel
theorem dL_says_1058 : decode cL_says 1058 = .ok (.iconst 0, 1) := by decide +kernel
theorem dL_says_1059 : decode cL_says 1059 = .ok (.istore_n 3, 1) := by decide +kernel
theorem dL_says_1060 : decode cL_says 1060 = .ok (.iload_n 3, 1) := by decide +kernel
theorem dL_says_1061 : decode cL_says 1061 = .ok (.bipush 8, 2) := by decide +kernel
theorem dL_says_1063 : decode cL_says 1063 = .ok (.if_icmp .ge 33, 3) := by decide +kernel
theorem dL_says_1066 : decode cL_says 1066 = .ok (.aload_n 0, 1) := by decide +kernel
theorem dL_says_1067 : decode cL_says 1067 = .ok (.bipush 39, 2) := by decide +kernel
theorem dL_says_1069 : decode cL_says 1069 = .ok (.iload_n 3, 1) := by decide +kernel
theorem dL_says_1070 : decode cL_says 1070 = .ok (.invokevirtual 44, 3) := by decide +kernel
theorem dL_says_1073 : decode cL_says 1073 = .ok (.iconst (-1), 1) := by decide +kernel
theorem dL_says_1074 : decode cL_says 1074 = .ok (.if_icmp .ne 14, 3) := by decide +kernel
theorem dL_says_1077 : decode cL_says 1077 = .ok (.aload_n 0, 1) := by decide +kernel
theorem dL_says_1078 : decode cL_says 1078 = .ok (.ldc 84, 2) := by decide +kernel
theorem dL_says_1080 : decode cL_says 1080 = .ok (.iload_n 3, 1) := by decide +kernel
theorem dL_says_1081 : decode cL_says 1081 = .ok (.invokevirtual 44, 3) := by decide +kernel
theorem dL_says_1084 : decode cL_says 1084 = .ok (.iconst (-1), 1) := by decide +kernel
theorem dL_says_1085 : decode cL_says 1085 = .ok (.if_icmp .eq 5, 3) := by decide +kernel
theorem dL_says_1088 : decode cL_says 1088 = .ok (.iconst 0, 1) := by decide +kernel
theorem dL_says_1089 : decode cL_says 1089 = .ok (.ireturn, 1) := by decide +kernel
theorem dL_says_1090 : decode cL_says 1090 = .ok (.iinc 3 1, 3) := by decide +kernel
theorem dL_says_1093 : decode cL_says 1093 = .ok (.goto (-33), 3) := by decide +kernel
theorem dL_says_1096 : decode cL_says 1096 = .ok (.aload_n 0, 1) := by decide +kernel
theorem dL_says_1097 : decode cL_says 1097 = .ok (.invokestatic 108, 3) := by decide +kernel
theorem dL_says_1100 : decode cL_says 1100 = .ok (.ifCond .eq 19, 3) := by decide +kernel
theorem dL_says_1103 : decode cL_says 1103 = .ok (.invokestatic 112, 3) := by decide +kernel
theorem dL_says_1106 : decode cL_says 1106 = .ok (.ifCond .eq 13, 3) := by decide +kernel
theorem dL_says_1109 : decode cL_says 1109 = .ok (.invokestatic 116, 3) := by decide +kernel
theorem dL_says_1112 : decode cL_says 1112 = .ok (.ifCond .eq 7, 3) := by decide +kernel
theorem dL_says_1115 : decode cL_says 1115 = .ok (.iconst 1, 1) := by decide +kernel
theorem dL_says_1116 : decode cL_says 1116 = .ok (.goto 4, 3) := by decide +kernel
theorem dL_says_1119 : decode cL_says 1119 = .ok (.iconst 0, 1) := by decide +kernel
theorem dL_says_1120 : decode cL_says 1120 = .ok (.ireturn, 1) := by decide +kernel
theorem dL_faces_0 : decode cL_faces 0 = .ok (.aload_n 0, 1) := by decide +kernel
theorem dL_faces_1 : decode cL_faces 1 = .ok (.iconst 0, 1) := by decide +kernel
theorem dL_faces_2 : decode cL_faces 2 = .ok (.iconst 0, 1) := by decide +kernel
theorem dL_faces_3 : decode cL_faces 3 = .ok (.iconst 0, 1) := by decide +kernel
theorem dL_faces_4 : decode cL_faces 4 = .ok (.invokevirtual 23, 3) := by decide +kernel
theorem dL_faces_7 : decode cL_faces 7 = .ok (.iconst 1, 1) := by decide +kernel
theorem dL_faces_8 : decode cL_faces 8 = .ok (.if_icmp .ne 240, 3) := by decide +kernel
theorem dL_faces_11 : decode cL_faces 11 = .ok (.aload_n 0, 1) := by decide +kernel
theorem dL_faces_12 : decode cL_faces 12 = .ok (.iconst 0, 1) := by decide +kernel
theorem dL_faces_13 : decode cL_faces 13 = .ok (.iconst 0, 1) := by decide +kernel
theorem dL_faces_14 : decode cL_faces 14 = .ok (.invokevirtual 27, 3) := by decide +kernel
theorem dL_faces_17 : decode cL_faces 17 = .ok (.ifCond .ne 231, 3) := by decide +kernel
theorem dL_faces_20 : decode cL_faces 20 = .ok (.aload_n 0, 1) := by decide +kernel
theorem dL_faces_21 : decode cL_faces 21 = .ok (.iconst 1, 1) := by decide +kernel
theorem dL_faces_22 : decode cL_faces 22 = .ok (.iconst 0, 1) := by decide +kernel
theorem dL_faces_23 : decode cL_faces 23 = .ok (.invokevirtual 27, 3) := by decide +kernel
theorem dL_faces_26 : decode cL_faces 26 = .ok (.ifCond .ne 222, 3) := by decide +kernel
theorem dL_faces_29 : decode cL_faces 29 = .ok (.aload_n 0, 1) := by decide +kernel
theorem dL_faces_30 : decode cL_faces 30 = .ok (.iconst 2, 1) := by decide +kernel
theorem dL_faces_31 : decode cL_faces 31 = .ok (.iconst 0, 1) := by decide +kernel
theorem dL_faces_32 : decode cL_faces 32 = .ok (.invokevirtual 27, 3) := by decide +kernel
theorem dL_faces_35 : decode cL_faces 35 = .ok (.ifCond .ne 213, 3) := by decide +kernel
theorem dL_faces_38 : decode cL_faces 38 = .ok (.aload_n 0, 1) := by decide +kernel
theorem dL_faces_39 : decode cL_faces 39 = .ok (.iconst 3, 1) := by decide +kernel
theorem dL_faces_40 : decode cL_faces 40 = .ok (.iconst 0, 1) := by decide +kernel
theorem dL_faces_41 : decode cL_faces 41 = .ok (.invokevirtual 27, 3) := by decide +kernel
theorem dL_faces_44 : decode cL_faces 44 = .ok (.iconst (-1), 1) := by decide +kernel
theorem dL_faces_45 : decode cL_faces 45 = .ok (.if_icmp .ne 203, 3) := by decide +kernel
theorem dL_faces_48 : decode cL_faces 48 = .ok (.aload_n 0, 1) := by decide +kernel
theorem dL_faces_49 : decode cL_faces 49 = .ok (.iconst 4, 1) := by decide +kernel
theorem dL_faces_50 : decode cL_faces 50 = .ok (.iconst 0, 1) := by decide +kernel
theorem dL_faces_51 : decode cL_faces 51 = .ok (.invokevirtual 27, 3) := by decide +kernel
theorem dL_faces_54 : decode cL_faces 54 = .ok (.iconst (-1), 1) := by decide +kernel
theorem dL_faces_55 : decode cL_faces 55 = .ok (.if_icmp .ne 193, 3) := by decide +kernel
theorem dL_faces_58 : decode cL_faces 58 = .ok (.aload_n 0, 1) := by decide +kernel
theorem dL_faces_59 : decode cL_faces 59 = .ok (.iconst 1, 1) := by decide +kernel
theorem dL_faces_60 : decode cL_faces 60 = .ok (.iconst 2, 1) := by decide +kernel
theorem dL_faces_61 : decode cL_faces 61 = .ok (.iconst 3, 1) := by decide +kernel
theorem dL_faces_62 : decode cL_faces 62 = .ok (.invokevirtual 23, 3) := by decide +kernel
theorem dL_faces_65 : decode cL_faces 65 = .ok (.iconst 2, 1) := by decide +kernel
theorem dL_faces_66 : decode cL_faces 66 = .ok (.if_icmp .ne 182, 3) := by decide +kernel
theorem dL_faces_69 : decode cL_faces 69 = .ok (.aload_n 0, 1) := by decide +kernel
theorem dL_faces_70 : decode cL_faces 70 = .ok (.iconst 1, 1) := by decide +kernel
theorem dL_faces_71 : decode cL_faces 71 = .ok (.iconst 0, 1) := by decide +kernel
theorem dL_faces_72 : decode cL_faces 72 = .ok (.invokevirtual 27, 3) := by decide +kernel
theorem dL_faces_75 : decode cL_faces 75 = .ok (.ifCond .ne 173, 3) := by decide +kernel
theorem dL_faces_78 : decode cL_faces 78 = .ok (.aload_n 0, 1) := by decide +kernel
theorem dL_faces_79 : decode cL_faces 79 = .ok (.iconst 2, 1) := by decide +kernel
theorem dL_faces_80 : decode cL_faces 80 = .ok (.iconst 0, 1) := by decide +kernel
theorem dL_faces_81 : decode cL_faces 81 = .ok (.invokevirtual 27, 3) := by decide +kernel
theorem dL_faces_84 : decode cL_faces 84 = .ok (.iconst 1, 1) := by decide +kernel
theorem dL_faces_85 : decode cL_faces 85 = .ok (.if_icmp .ne 163, 3) := by decide +kernel
theorem dL_faces_88 : decode cL_faces 88 = .ok (.aload_n 0, 1) := by decide +kernel
theorem dL_faces_89 : decode cL_faces 89 = .ok (.iconst 4, 1) := by decide +kernel
theorem dL_faces_90 : decode cL_faces 90 = .ok (.iconst 0, 1) := by decide +kernel
theorem dL_faces_91 : decode cL_faces 91 = .ok (.invokevirtual 27, 3) := by decide +kernel
theorem dL_faces_94 : decode cL_faces 94 = .ok (.iconst 1, 1) := by decide +kernel
theorem dL_faces_95 : decode cL_faces 95 = .ok (.if_icmp .ne 153, 3) := by decide +kernel
theorem dL_faces_98 : decode cL_faces 98 = .ok (.aload_n 0, 1) := by decide +kernel
theorem dL_faces_99 : decode cL_faces 99 = .ok (.iconst 5, 1) := by decide +kernel
theorem dL_faces_100 : decode cL_faces 100 = .ok (.iconst 0, 1) := by decide +kernel
theorem dL_faces_101 : decode cL_faces 101 = .ok (.invokevirtual 27, 3) := by decide +kernel
theorem dL_faces_104 : decode cL_faces 104 = .ok (.iconst (-1), 1) := by decide +kernel
theorem dL_faces_105 : decode cL_faces 105 = .ok (.if_icmp .ne 143, 3) := by decide +kernel
theorem dL_faces_108 : decode cL_faces 108 = .ok (.aload_n 0, 1) := by decide +kernel
theorem dL_faces_109 : decode cL_faces 109 = .ok (.iconst 4, 1) := by decide +kernel
theorem dL_faces_110 : decode cL_faces 110 = .ok (.iconst 1, 1) := by decide +kernel
theorem dL_faces_111 : decode cL_faces 111 = .ok (.iconst 0, 1) := by decide +kernel
theorem dL_faces_112 : decode cL_faces 112 = .ok (.iconst 1, 1) := by decide +kernel
theorem dL_faces_113 : decode cL_faces 113 = .ok (.iconst 0, 1) := by decide +kernel
theorem dL_faces_114 : decode cL_faces 114 = .ok (.invokestatic 90, 3) := by decide +kernel
theorem dL_faces_117 : decode cL_faces 117 = .ok (.bipush (-73), 2) := by decide +kernel
theorem dL_faces_119 : decode cL_faces 119 = .ok (.if_icmp .ne 129, 3) := by decide +kernel
theorem dL_faces_122 : decode cL_faces 122 = .ok (.aload_n 0, 1) := by decide +kernel
theorem dL_faces_123 : decode cL_faces 123 = .ok (.iconst 2, 1) := by decide +kernel
theorem dL_faces_124 : decode cL_faces 124 = .ok (.iconst 1, 1) := by decide +kernel
theorem dL_faces_125 : decode cL_faces 125 = .ok (.bipush 6, 2) := by decide +kernel
theorem dL_faces_127 : decode cL_faces 127 = .ok (.invokevirtual 23, 3) := by decide +kernel
theorem dL_faces_130 : decode cL_faces 130 = .ok (.iconst 3, 1) := by decide +kernel
theorem dL_faces_131 : decode cL_faces 131 = .ok (.if_icmp .ne 117, 3) := by decide +kernel
theorem dL_faces_134 : decode cL_faces 134 = .ok (.aload_n 0, 1) := by decide +kernel
theorem dL_faces_135 : decode cL_faces 135 = .ok (.iconst 5, 1) := by decide +kernel
theorem dL_faces_136 : decode cL_faces 136 = .ok (.iconst 1, 1) := by decide +kernel
theorem dL_faces_137 : decode cL_faces 137 = .ok (.invokevirtual 27, 3) := by decide +kernel
theorem dL_faces_140 : decode cL_faces 140 = .ok (.iconst 2, 1) := by decide +kernel
theorem dL_faces_141 : decode cL_faces 141 = .ok (.if_icmp .ne 107, 3) := by decide +kernel
theorem dL_faces_144 : decode cL_faces 144 = .ok (.aload_n 0, 1) := by decide +kernel
theorem dL_faces_145 : decode cL_faces 145 = .ok (.iconst 0, 1) := by decide +kernel
theorem dL_faces_146 : decode cL_faces 146 = .ok (.iconst 1, 1) := by decide +kernel
theorem dL_faces_147 : decode cL_faces 147 = .ok (.invokevirtual 27, 3) := by decide +kernel
theorem dL_faces_150 : decode cL_faces 150 = .ok (.iconst (-1), 1) := by decide +kernel
theorem dL_faces_151 : decode cL_faces 151 = .ok (.if_icmp .ne 97, 3) := by decide +kernel
theorem dL_faces_154 : decode cL_faces 154 = .ok (.aload_n 0, 1) := by decide +kernel
theorem dL_faces_155 : decode cL_faces 155 = .ok (.iconst 4, 1) := by decide +kernel
theorem dL_faces_156 : decode cL_faces 156 = .ok (.iconst 3, 1) := by decide +kernel
theorem dL_faces_157 : decode cL_faces 157 = .ok (.iconst 3, 1) := by decide +kernel
theorem dL_faces_158 : decode cL_faces 158 = .ok (.iconst 2, 1) := by decide +kernel
theorem dL_faces_159 : decode cL_faces 159 = .ok (.iconst 0, 1) := by decide +kernel
theorem dL_faces_160 : decode cL_faces 160 = .ok (.invokestatic 90, 3) := by decide +kernel
theorem dL_faces_163 : decode cL_faces 163 = .ok (.bipush (-72), 2) := by decide +kernel
theorem dL_faces_165 : decode cL_faces 165 = .ok (.if_icmp .ne 83, 3) := by decide +kernel
theorem dL_faces_168 : decode cL_faces 168 = .ok (.aload_n 0, 1) := by decide +kernel
theorem dL_faces_169 : decode cL_faces 169 = .ok (.bipush 8, 2) := by decide +kernel
theorem dL_faces_171 : decode cL_faces 171 = .ok (.iconst 4, 1) := by decide +kernel
theorem dL_faces_172 : decode cL_faces 172 = .ok (.invokevirtual 44, 3) := by decide +kernel
theorem dL_faces_175 : decode cL_faces 175 = .ok (.ifCond .ne 73, 3) := by decide +kernel
theorem dL_faces_178 : decode cL_faces 178 = .ok (.aload_n 0, 1) := by decide +kernel
theorem dL_faces_179 : decode cL_faces 179 = .ok (.bipush 27, 2) := by decide +kernel
theorem dL_faces_181 : decode cL_faces 181 = .ok (.iconst 4, 1) := by decide +kernel
theorem dL_faces_182 : decode cL_faces 182 = .ok (.invokevirtual 44, 3) := by decide +kernel
theorem dL_faces_185 : decode cL_faces 185 = .ok (.iconst 1, 1) := by decide +kernel
theorem dL_faces_186 : decode cL_faces 186 = .ok (.if_icmp .ne 62, 3) := by decide +kernel
theorem dL_faces_189 : decode cL_faces 189 = .ok (.aload_n 0, 1) := by decide +kernel
theorem dL_faces_190 : decode cL_faces 190 = .ok (.bipush 7, 2) := by decide +kernel
theorem dL_faces_192 : decode cL_faces 192 = .ok (.iconst 5, 1) := by decide +kernel
theorem dL_faces_193 : decode cL_faces 193 = .ok (.invokevirtual 44, 3) := by decide +kernel
theorem dL_faces_196 : decode cL_faces 196 = .ok (.iconst (-1), 1) := by decide +kernel
theorem dL_faces_197 : decode cL_faces 197 = .ok (.if_icmp .ne 51, 3) := by decide +kernel
theorem dL_faces_200 : decode cL_faces 200 = .ok (.aload_n 0, 1) := by decide +kernel
theorem dL_faces_201 : decode cL_faces 201 = .ok (.bipush 33, 2) := by decide +kernel
theorem dL_faces_203 : decode cL_faces 203 = .ok (.iconst 4, 1) := by decide +kernel
theorem dL_faces_204 : decode cL_faces 204 = .ok (.invokevirtual 44, 3) := by decide +kernel
theorem dL_faces_207 : decode cL_faces 207 = .ok (.iconst (-1), 1) := by decide +kernel
theorem dL_faces_208 : decode cL_faces 208 = .ok (.if_icmp .ne 40, 3) := by decide +kernel
theorem dL_faces_211 : decode cL_faces 211 = .ok (.aload_n 0, 1) := by decide +kernel
theorem dL_faces_212 : decode cL_faces 212 = .ok (.bipush 38, 2) := by decide +kernel
theorem dL_faces_214 : decode cL_faces 214 = .ok (.bipush 6, 2) := by decide +kernel
theorem dL_faces_216 : decode cL_faces 216 = .ok (.invokevirtual 44, 3) := by decide +kernel
theorem dL_faces_219 : decode cL_faces 219 = .ok (.iconst (-1), 1) := by decide +kernel
theorem dL_faces_220 : decode cL_faces 220 = .ok (.if_icmp .ne 28, 3) := by decide +kernel
theorem dL_faces_223 : decode cL_faces 223 = .ok (.aload_n 0, 1) := by decide +kernel
theorem dL_faces_224 : decode cL_faces 224 = .ok (.iconst 3, 1) := by decide +kernel
theorem dL_faces_225 : decode cL_faces 225 = .ok (.bipush 6, 2) := by decide +kernel
theorem dL_faces_227 : decode cL_faces 227 = .ok (.bipush 6, 2) := by decide +kernel
theorem dL_faces_229 : decode cL_faces 229 = .ok (.invokevirtual 23, 3) := by decide +kernel
theorem dL_faces_232 : decode cL_faces 232 = .ok (.iconst 4, 1) := by decide +kernel
theorem dL_faces_233 : decode cL_faces 233 = .ok (.if_icmp .ne 15, 3) := by decide +kernel
theorem dL_faces_236 : decode cL_faces 236 = .ok (.aload_n 0, 1) := by decide +kernel
theorem dL_faces_237 : decode cL_faces 237 = .ok (.bipush 38, 2) := by decide +kernel
theorem dL_faces_239 : decode cL_faces 239 = .ok (.bipush 6, 2) := by decide +kernel
theorem dL_faces_241 : decode cL_faces 241 = .ok (.invokevirtual 44, 3) := by decide +kernel
theorem dL_faces_244 : decode cL_faces 244 = .ok (.iconst 3, 1) := by decide +kernel
theorem dL_faces_245 : decode cL_faces 245 = .ok (.if_icmp .eq 5, 3) := by decide +kernel
theorem dL_faces_248 : decode cL_faces 248 = .ok (.iconst 0, 1) := by decide +kernel
theorem dL_faces_249 : decode cL_faces 249 = .ok (.ireturn, 1) := by decide +kernel
theorem dL_faces_250 : decode cL_faces 250 = .ok (.aload_n 0, 1) := by decide +kernel
theorem dL_faces_251 : decode cL_faces 251 = .ok (.iconst 0, 1) := by decide +kernel
theorem dL_faces_252 : decode cL_faces 252 = .ok (.iconst 0, 1) := by decide +kernel
theorem dL_faces_253 : decode cL_faces 253 = .ok (.invokevirtual 47, 3) := by decide +kernel
theorem dL_faces_256 : decode cL_faces 256 = .ok (.ifCond .ne 378, 3) := by decide +kernel
theorem dL_faces_259 : decode cL_faces 259 = .ok (.aload_n 0, 1) := by decide +kernel
theorem dL_faces_260 : decode cL_faces 260 = .ok (.iconst 0, 1) := by decide +kernel
theorem dL_faces_261 : decode cL_faces 261 = .ok (.iconst 1, 1) := by decide +kernel
theorem dL_faces_262 : decode cL_faces 262 = .ok (.invokevirtual 47, 3) := by decide +kernel
theorem dL_faces_265 : decode cL_faces 265 = .ok (.ifCond .ne 369, 3) := by decide +kernel
theorem dL_faces_268 : decode cL_faces 268 = .ok (.aload_n 0, 1) := by decide +kernel
theorem dL_faces_269 : decode cL_faces 269 = .ok (.iconst 0, 1) := by decide +kernel
theorem dL_faces_270 : decode cL_faces 270 = .ok (.iconst 2, 1) := by decide +kernel
theorem dL_faces_271 : decode cL_faces 271 = .ok (.invokevirtual 47, 3) := by decide +kernel
theorem dL_faces_274 : decode cL_faces 274 = .ok (.iconst 1, 1) := by decide +kernel
theorem dL_faces_275 : decode cL_faces 275 = .ok (.if_icmp .ne 359, 3) := by decide +kernel
theorem dL_faces_278 : decode cL_faces 278 = .ok (.aload_n 0, 1) := by decide +kernel
theorem dL_faces_279 : decode cL_faces 279 = .ok (.iconst 1, 1) := by decide +kernel
theorem dL_faces_280 : decode cL_faces 280 = .ok (.iconst 0, 1) := by decide +kernel
theorem dL_faces_281 : decode cL_faces 281 = .ok (.invokevirtual 47, 3) := by decide +kernel
theorem dL_faces_284 : decode cL_faces 284 = .ok (.iconst 2, 1) := by decide +kernel
theorem dL_faces_285 : decode cL_faces 285 = .ok (.if_icmp .ne 349, 3) := by decide +kernel
theorem dL_faces_288 : decode cL_faces 288 = .ok (.aload_n 0, 1) := by decide +kernel
theorem dL_faces_289 : decode cL_faces 289 = .ok (.iconst 1, 1) := by decide +kernel
theorem dL_faces_290 : decode cL_faces 290 = .ok (.iconst 1, 1) := by decide +kernel
theorem dL_faces_291 : decode cL_faces 291 = .ok (.invokevirtual 47, 3) := by decide +kernel
theorem dL_faces_294 : decode cL_faces 294 = .ok (.ifCond .ne 340, 3) := by decide +kernel
theorem dL_faces_297 : decode cL_faces 297 = .ok (.aload_n 0, 1) := by decide +kernel
theorem dL_faces_298 : decode cL_faces 298 = .ok (.iconst 1, 1) := by decide +kernel
theorem dL_faces_299 : decode cL_faces 299 = .ok (.iconst 2, 1) := by decide +kernel
theorem dL_faces_300 : decode cL_faces 300 = .ok (.invokevirtual 47, 3) := by decide +kernel
theorem dL_faces_303 : decode cL_faces 303 = .ok (.ifCond .ne 331, 3) := by decide +kernel
theorem dL_faces_306 : decode cL_faces 306 = .ok (.aload_n 0, 1) := by decide +kernel
theorem dL_faces_307 : decode cL_faces 307 = .ok (.iconst 3, 1) := by decide +kernel
theorem dL_faces_308 : decode cL_faces 308 = .ok (.iconst 0, 1) := by decide +kernel
theorem dL_faces_309 : decode cL_faces 309 = .ok (.invokevirtual 47, 3) := by decide +kernel
theorem dL_faces_312 : decode cL_faces 312 = .ok (.iconst (-1), 1) := by decide +kernel
theorem dL_faces_313 : decode cL_faces 313 = .ok (.if_icmp .ne 321, 3) := by decide +kernel
theorem dL_faces_316 : decode cL_faces 316 = .ok (.aload_n 0, 1) := by decide +kernel
theorem dL_faces_317 : decode cL_faces 317 = .ok (.iconst 3, 1) := by decide +kernel
theorem dL_faces_318 : decode cL_faces 318 = .ok (.iconst 1, 1) := by decide +kernel
theorem dL_faces_319 : decode cL_faces 319 = .ok (.invokevirtual 47, 3) := by decide +kernel
theorem dL_faces_322 : decode cL_faces 322 = .ok (.iconst (-1), 1) := by decide +kernel
theorem dL_faces_323 : decode cL_faces 323 = .ok (.if_icmp .ne 311, 3) := by decide +kernel
theorem dL_faces_326 : decode cL_faces 326 = .ok (.aload_n 0, 1) := by decide +kernel
theorem dL_faces_327 : decode cL_faces 327 = .ok (.iconst 3, 1) := by decide +kernel
theorem dL_faces_328 : decode cL_faces 328 = .ok (.iconst 2, 1) := by decide +kernel
theorem dL_faces_329 : decode cL_faces 329 = .ok (.invokevirtual 47, 3) := by decide +kernel
theorem dL_faces_332 : decode cL_faces 332 = .ok (.ifCond .ne 302, 3) := by decide +kernel
theorem dL_faces_335 : decode cL_faces 335 = .ok (.aload_n 0, 1) := by decide +kernel
theorem dL_faces_336 : decode cL_faces 336 = .ok (.iconst 4, 1) := by decide +kernel
theorem dL_faces_337 : decode cL_faces 337 = .ok (.iconst 0, 1) := by decide +kernel
theorem dL_faces_338 : decode cL_faces 338 = .ok (.invokevirtual 47, 3) := by decide +kernel
theorem dL_faces_341 : decode cL_faces 341 = .ok (.iconst 2, 1) := by decide +kernel
theorem dL_faces_342 : decode cL_faces 342 = .ok (.if_icmp .ne 292, 3) := by decide +kernel
theorem dL_faces_345 : decode cL_faces 345 = .ok (.aload_n 0, 1) := by decide +kernel
theorem dL_faces_346 : decode cL_faces 346 = .ok (.iconst 5, 1) := by decide +kernel
theorem dL_faces_347 : decode cL_faces 347 = .ok (.iconst 0, 1) := by decide +kernel
theorem dL_faces_348 : decode cL_faces 348 = .ok (.invokevirtual 47, 3) := by decide +kernel
theorem dL_faces_351 : decode cL_faces 351 = .ok (.iconst 5, 1) := by decide +kernel
theorem dL_faces_352 : decode cL_faces 352 = .ok (.if_icmp .ne 282, 3) := by decide +kernel
theorem dL_faces_355 : decode cL_faces 355 = .ok (.aload_n 0, 1) := by decide +kernel
theorem dL_faces_356 : decode cL_faces 356 = .ok (.iconst 5, 1) := by decide +kernel
theorem dL_faces_357 : decode cL_faces 357 = .ok (.iconst 1, 1) := by decide +kernel
theorem dL_faces_358 : decode cL_faces 358 = .ok (.invokevirtual 47, 3) := by decide +kernel
theorem dL_faces_361 : decode cL_faces 361 = .ok (.bipush 13, 2) := by decide +kernel
theorem dL_faces_363 : decode cL_faces 363 = .ok (.if_icmp .ne 271, 3) := by decide +kernel
theorem dL_faces_366 : decode cL_faces 366 = .ok (.aload_n 0, 1) := by decide +kernel
theorem dL_faces_367 : decode cL_faces 367 = .ok (.iconst 0, 1) := by decide +kernel
theorem dL_faces_368 : decode cL_faces 368 = .ok (.invokevirtual 33, 3) := by decide +kernel
theorem dL_faces_371 : decode cL_faces 371 = .ok (.ifCond .ne 263, 3) := by decide +kernel
theorem dL_faces_374 : decode cL_faces 374 = .ok (.aload_n 0, 1) := by decide +kernel
theorem dL_faces_375 : decode cL_faces 375 = .ok (.iconst 3, 1) := by decide +kernel
theorem dL_faces_376 : decode cL_faces 376 = .ok (.iconst 5, 1) := by decide +kernel
theorem dL_faces_377 : decode cL_faces 377 = .ok (.invokevirtual 41, 3) := by decide +kernel
theorem dL_faces_380 : decode cL_faces 380 = .ok (.ifCond .ne 254, 3) := by decide +kernel
theorem dL_faces_383 : decode cL_faces 383 = .ok (.aload_n 0, 1) := by decide +kernel
theorem dL_faces_384 : decode cL_faces 384 = .ok (.iconst 0, 1) := by decide +kernel
theorem dL_faces_385 : decode cL_faces 385 = .ok (.iconst 1, 1) := by decide +kernel
theorem dL_faces_386 : decode cL_faces 386 = .ok (.invokevirtual 37, 3) := by decide +kernel
theorem dL_faces_389 : decode cL_faces 389 = .ok (.ifCond .eq 245, 3) := by decide +kernel
theorem dL_faces_392 : decode cL_faces 392 = .ok (.aload_n 0, 1) := by decide +kernel
theorem dL_faces_393 : decode cL_faces 393 = .ok (.iconst 3, 1) := by decide +kernel
theorem dL_faces_394 : decode cL_faces 394 = .ok (.iconst 5, 1) := by decide +kernel
theorem dL_faces_395 : decode cL_faces 395 = .ok (.invokevirtual 41, 3) := by decide +kernel
theorem dL_faces_398 : decode cL_faces 398 = .ok (.iconst 1, 1) := by decide +kernel
theorem dL_faces_399 : decode cL_faces 399 = .ok (.if_icmp .ne 235, 3) := by decide +kernel
theorem dL_faces_402 : decode cL_faces 402 = .ok (.aload_n 0, 1) := by decide +kernel
theorem dL_faces_403 : decode cL_faces 403 = .ok (.iconst 0, 1) := by decide +kernel
theorem dL_faces_404 : decode cL_faces 404 = .ok (.iconst 1, 1) := by decide +kernel
theorem dL_faces_405 : decode cL_faces 405 = .ok (.invokevirtual 37, 3) := by decide +kernel
theorem dL_faces_408 : decode cL_faces 408 = .ok (.ifCond .ne 226, 3) := by decide +kernel
theorem dL_faces_411 : decode cL_faces 411 = .ok (.aload_n 0, 1) := by decide +kernel
theorem dL_faces_412 : decode cL_faces 412 = .ok (.iconst 3, 1) := by decide +kernel
theorem dL_faces_413 : decode cL_faces 413 = .ok (.iconst 5, 1) := by decide +kernel
theorem dL_faces_414 : decode cL_faces 414 = .ok (.invokevirtual 41, 3) := by decide +kernel
theorem dL_faces_417 : decode cL_faces 417 = .ok (.ifCond .ne 217, 3) := by decide +kernel
theorem dL_faces_420 : decode cL_faces 420 = .ok (.aload_n 0, 1) := by decide +kernel
theorem dL_faces_421 : decode cL_faces 421 = .ok (.iconst 1, 1) := by decide +kernel
theorem dL_faces_422 : decode cL_faces 422 = .ok (.invokevirtual 33, 3) := by decide +kernel
theorem dL_faces_425 : decode cL_faces 425 = .ok (.iconst 1, 1) := by decide +kernel
theorem dL_faces_426 : decode cL_faces 426 = .ok (.if_icmp .ne 208, 3) := by decide +kernel
theorem dL_faces_429 : decode cL_faces 429 = .ok (.aload_n 0, 1) := by decide +kernel
theorem dL_faces_430 : decode cL_faces 430 = .ok (.iconst 1, 1) := by decide +kernel
theorem dL_faces_431 : decode cL_faces 431 = .ok (.iconst 0, 1) := by decide +kernel
theorem dL_faces_432 : decode cL_faces 432 = .ok (.invokevirtual 41, 3) := by decide +kernel
theorem dL_faces_435 : decode cL_faces 435 = .ok (.iconst 1, 1) := by decide +kernel
theorem dL_faces_436 : decode cL_faces 436 = .ok (.if_icmp .ne 198, 3) := by decide +kernel
theorem dL_faces_439 : decode cL_faces 439 = .ok (.aload_n 0, 1) := by decide +kernel
theorem dL_faces_440 : decode cL_faces 440 = .ok (.iconst 2, 1) := by decide +kernel
theorem dL_faces_441 : decode cL_faces 441 = .ok (.iconst 0, 1) := by decide +kernel
theorem dL_faces_442 : decode cL_faces 442 = .ok (.invokevirtual 41, 3) := by decide +kernel
theorem dL_faces_445 : decode cL_faces 445 = .ok (.iconst 5, 1) := by decide +kernel
theorem dL_faces_446 : decode cL_faces 446 = .ok (.if_icmp .ne 188, 3) := by decide +kernel
theorem dL_faces_449 : decode cL_faces 449 = .ok (.aload_n 0, 1) := by decide +kernel
theorem dL_faces_450 : decode cL_faces 450 = .ok (.iconst 4, 1) := by decide +kernel
theorem dL_faces_451 : decode cL_faces 451 = .ok (.iconst 0, 1) := by decide +kernel
theorem dL_faces_452 : decode cL_faces 452 = .ok (.invokevirtual 41, 3) := by decide +kernel
theorem dL_faces_455 : decode cL_faces 455 = .ok (.iconst 5, 1) := by decide +kernel
theorem dL_faces_456 : decode cL_faces 456 = .ok (.if_icmp .ne 178, 3) := by decide +kernel
theorem dL_faces_459 : decode cL_faces 459 = .ok (.aload_n 0, 1) := by decide +kernel
theorem dL_faces_460 : decode cL_faces 460 = .ok (.iconst 2, 1) := by decide +kernel
theorem dL_faces_461 : decode cL_faces 461 = .ok (.iconst 0, 1) := by decide +kernel
theorem dL_faces_462 : decode cL_faces 462 = .ok (.invokevirtual 47, 3) := by decide +kernel
theorem dL_faces_465 : decode cL_faces 465 = .ok (.iconst (-1), 1) := by decide +kernel
theorem dL_faces_466 : decode cL_faces 466 = .ok (.if_icmp .ne 168, 3) := by decide +kernel
theorem dL_faces_469 : decode cL_faces 469 = .ok (.aload_n 0, 1) := by decide +kernel
theorem dL_faces_470 : decode cL_faces 470 = .ok (.iconst 1, 1) := by decide +kernel
theorem dL_faces_471 : decode cL_faces 471 = .ok (.iconst 0, 1) := by decide +kernel
theorem dL_faces_472 : decode cL_faces 472 = .ok (.invokevirtual 47, 3) := by decide +kernel
theorem dL_faces_475 : decode cL_faces 475 = .ok (.iconst 2, 1) := by decide +kernel
theorem dL_faces_476 : decode cL_faces 476 = .ok (.if_icmp .ne 158, 3) := by decide +kernel
theorem dL_faces_479 : decode cL_faces 479 = .ok (.aload_n 0, 1) := by decide +kernel
theorem dL_faces_480 : decode cL_faces 480 = .ok (.iconst 2, 1) := by decide +kernel
theorem dL_faces_481 : decode cL_faces 481 = .ok (.invokevirtual 33, 3) := by decide +kernel
theorem dL_faces_484 : decode cL_faces 484 = .ok (.iconst 2, 1) := by decide +kernel
theorem dL_faces_485 : decode cL_faces 485 = .ok (.if_icmp .ne 149, 3) := by decide +kernel
theorem dL_faces_488 : decode cL_faces 488 = .ok (.aload_n 0, 1) := by decide +kernel
theorem dL_faces_489 : decode cL_faces 489 = .ok (.iconst 4, 1) := by decide +kernel
theorem dL_faces_490 : decode cL_faces 490 = .ok (.iconst 3, 1) := by decide +kernel
theorem dL_faces_491 : decode cL_faces 491 = .ok (.invokevirtual 41, 3) := by decide +kernel
theorem dL_faces_494 : decode cL_faces 494 = .ok (.iconst 2, 1) := by decide +kernel
theorem dL_faces_495 : decode cL_faces 495 = .ok (.if_icmp .ne 139, 3) := by decide +kernel
theorem dL_faces_498 : decode cL_faces 498 = .ok (.aload_n 0, 1) := by decide +kernel
theorem dL_faces_499 : decode cL_faces 499 = .ok (.iconst 4, 1) := by decide +kernel
theorem dL_faces_500 : decode cL_faces 500 = .ok (.iconst 4, 1) := by decide +kernel
theorem dL_faces_501 : decode cL_faces 501 = .ok (.invokevirtual 41, 3) := by decide +kernel
theorem dL_faces_504 : decode cL_faces 504 = .ok (.ifCond .ne 130, 3) := by decide +kernel
theorem dL_faces_507 : decode cL_faces 507 = .ok (.aload_n 0, 1) := by decide +kernel
theorem dL_faces_508 : decode cL_faces 508 = .ok (.iconst 4, 1) := by decide +kernel
theorem dL_faces_509 : decode cL_faces 509 = .ok (.bipush 8, 2) := by decide +kernel
theorem dL_faces_511 : decode cL_faces 511 = .ok (.invokevirtual 41, 3) := by decide +kernel
theorem dL_faces_514 : decode cL_faces 514 = .ok (.aload_n 0, 1) := by decide +kernel
theorem dL_faces_515 : decode cL_faces 515 = .ok (.iconst 4, 1) := by decide +kernel
theorem dL_faces_516 : decode cL_faces 516 = .ok (.bipush 7, 2) := by decide +kernel
theorem dL_faces_518 : decode cL_faces 518 = .ok (.invokevirtual 41, 3) := by decide +kernel
theorem dL_faces_521 : decode cL_faces 521 = .ok (.isub, 1) := by decide +kernel
theorem dL_faces_522 : decode cL_faces 522 = .ok (.iconst 5, 1) := by decide +kernel
theorem dL_faces_523 : decode cL_faces 523 = .ok (.if_icmp .ne 111, 3) := by decide +kernel
theorem dL_faces_526 : decode cL_faces 526 = .ok (.aload_n 0, 1) := by decide +kernel
theorem dL_faces_527 : decode cL_faces 527 = .ok (.iconst 4, 1) := by decide +kernel
theorem dL_faces_528 : decode cL_faces 528 = .ok (.invokevirtual 33, 3) := by decide +kernel
theorem dL_faces_531 : decode cL_faces 531 = .ok (.iconst 3, 1) := by decide +kernel
theorem dL_faces_532 : decode cL_faces 532 = .ok (.if_icmp .ne 102, 3) := by decide +kernel
theorem dL_faces_535 : decode cL_faces 535 = .ok (.aload_n 0, 1) := by decide +kernel
theorem dL_faces_536 : decode cL_faces 536 = .ok (.bipush 6, 2) := by decide +kernel
theorem dL_faces_538 : decode cL_faces 538 = .ok (.iconst 2, 1) := by decide +kernel
theorem dL_faces_539 : decode cL_faces 539 = .ok (.invokevirtual 41, 3) := by decide +kernel
theorem dL_faces_542 : decode cL_faces 542 = .ok (.iconst 5, 1) := by decide +kernel
theorem dL_faces_543 : decode cL_faces 543 = .ok (.if_icmp .ne 91, 3) := by decide +kernel
theorem dL_faces_546 : decode cL_faces 546 = .ok (.aload_n 0, 1) := by decide +kernel
theorem dL_faces_547 : decode cL_faces 547 = .ok (.iconst 5, 1) := by decide +kernel
theorem dL_faces_548 : decode cL_faces 548 = .ok (.iconst 2, 1) := by decide +kernel
theorem dL_faces_549 : decode cL_faces 549 = .ok (.invokevirtual 41, 3) := by decide +kernel
theorem dL_faces_552 : decode cL_faces 552 = .ok (.iconst 4, 1) := by decide +kernel
theorem dL_faces_553 : decode cL_faces 553 = .ok (.if_icmp .ne 81, 3) := by decide +kernel
theorem dL_faces_556 : decode cL_faces 556 = .ok (.aload_n 0, 1) := by decide +kernel
theorem dL_faces_557 : decode cL_faces 557 = .ok (.bipush 6, 2) := by decide +kernel
theorem dL_faces_559 : decode cL_faces 559 = .ok (.iconst 0, 1) := by decide +kernel
theorem dL_faces_560 : decode cL_faces 560 = .ok (.invokevirtual 47, 3) := by decide +kernel
theorem dL_faces_563 : decode cL_faces 563 = .ok (.iconst (-1), 1) := by decide +kernel
theorem dL_faces_564 : decode cL_faces 564 = .ok (.if_icmp .ne 70, 3) := by decide +kernel
theorem dL_faces_567 : decode cL_faces 567 = .ok (.aload_n 0, 1) := by decide +kernel
theorem dL_faces_568 : decode cL_faces 568 = .ok (.iconst 5, 1) := by decide +kernel
theorem dL_faces_569 : decode cL_faces 569 = .ok (.iconst 1, 1) := by decide +kernel
theorem dL_faces_570 : decode cL_faces 570 = .ok (.invokevirtual 47, 3) := by decide +kernel
theorem dL_faces_573 : decode cL_faces 573 = .ok (.bipush 13, 2) := by decide +kernel
theorem dL_faces_575 : decode cL_faces 575 = .ok (.if_icmp .ne 59, 3) := by decide +kernel
theorem dL_faces_578 : decode cL_faces 578 = .ok (.aload_n 0, 1) := by decide +kernel
theorem dL_faces_579 : decode cL_faces 579 = .ok (.iconst 1, 1) := by decide +kernel
theorem dL_faces_580 : decode cL_faces 580 = .ok (.invokevirtual 33, 3) := by decide +kernel
theorem dL_faces_583 : decode cL_faces 583 = .ok (.iconst 4, 1) := by decide +kernel
theorem dL_faces_584 : decode cL_faces 584 = .ok (.if_icmp .ne 50, 3) := by decide +kernel
theorem dL_faces_587 : decode cL_faces 587 = .ok (.aload_n 0, 1) := by decide +kernel
theorem dL_faces_588 : decode cL_faces 588 = .ok (.iconst 1, 1) := by decide +kernel
theorem dL_faces_589 : decode cL_faces 589 = .ok (.iconst 0, 1) := by decide +kernel
theorem dL_faces_590 : decode cL_faces 590 = .ok (.invokevirtual 41, 3) := by decide +kernel
theorem dL_faces_593 : decode cL_faces 593 = .ok (.iconst 5, 1) := by decide +kernel
theorem dL_faces_594 : decode cL_faces 594 = .ok (.if_icmp .ne 40, 3) := by decide +kernel
theorem dL_faces_597 : decode cL_faces 597 = .ok (.aload_n 0, 1) := by decide +kernel
theorem dL_faces_598 : decode cL_faces 598 = .ok (.iconst 3, 1) := by decide +kernel
theorem dL_faces_599 : decode cL_faces 599 = .ok (.invokevirtual 33, 3) := by decide +kernel
theorem dL_faces_602 : decode cL_faces 602 = .ok (.iconst 5, 1) := by decide +kernel
theorem dL_faces_603 : decode cL_faces 603 = .ok (.if_icmp .ne 31, 3) := by decide +kernel
theorem dL_faces_606 : decode cL_faces 606 = .ok (.aload_n 0, 1) := by decide +kernel
theorem dL_faces_607 : decode cL_faces 607 = .ok (.bipush 7, 2) := by decide +kernel
theorem dL_faces_609 : decode cL_faces 609 = .ok (.iconst 0, 1) := by decide +kernel
theorem dL_faces_610 : decode cL_faces 610 = .ok (.iconst 0, 1) := by decide +kernel
theorem dL_faces_611 : decode cL_faces 611 = .ok (.iconst 0, 1) := by decide +kernel
theorem dL_faces_612 : decode cL_faces 612 = .ok (.iconst 0, 1) := by decide +kernel
theorem dL_faces_613 : decode cL_faces 613 = .ok (.invokestatic 90, 3) := by decide +kernel
theorem dL_faces_616 : decode cL_faces 616 = .ok (.bipush (-73), 2) := by decide +kernel
theorem dL_faces_618 : decode cL_faces 618 = .ok (.if_icmp .ne 16, 3) := by decide +kernel
theorem dL_faces_621 : decode cL_faces 621 = .ok (.aload_n 0, 1) := by decide +kernel
theorem dL_faces_622 : decode cL_faces 622 = .ok (.iconst 4, 1) := by decide +kernel
theorem dL_faces_623 : decode cL_faces 623 = .ok (.bipush 7, 2) := by decide +kernel
theorem dL_faces_625 : decode cL_faces 625 = .ok (.bipush 6, 2) := by decide +kernel
theorem dL_faces_627 : decode cL_faces 627 = .ok (.iconst 0, 1) := by decide +kernel
theorem dL_faces_628 : decode cL_faces 628 = .ok (.invokestatic 100, 3) := by decide +kernel
theorem dL_faces_631 : decode cL_faces 631 = .ok (.ifCond .ne 5, 3) := by decide +kernel
theorem dL_faces_634 : decode cL_faces 634 = .ok (.iconst 0, 1) := by decide +kernel
theorem dL_faces_635 : decode cL_faces 635 = .ok (.ireturn, 1) := by decide +kernel
theorem dL_faces_636 : decode cL_faces 636 = .ok (.aload_n 0, 1) := by decide +kernel
theorem dL_faces_637 : decode cL_faces 637 = .ok (.invokevirtual 104, 3) := by decide +kernel
theorem dL_faces_640 : decode cL_faces 640 = .ok (.bipush 7, 2) := by decide +kernel
theorem dL_faces_642 : decode cL_faces 642 = .ok (.if_icmp .ne 139, 3) := by decide +kernel
theorem dL_faces_645 : decode cL_faces 645 = .ok (.aload_n 0, 1) := by decide +kernel
theorem dL_faces_646 : decode cL_faces 646 = .ok (.iconst 0, 1) := by decide +kernel
theorem dL_faces_647 : decode cL_faces 647 = .ok (.iconst 0, 1) := by decide +kernel
theorem dL_faces_648 : decode cL_faces 648 = .ok (.invokevirtual 44, 3) := by decide +kernel
theorem dL_faces_651 : decode cL_faces 651 = .ok (.iconst (-1), 1) := by decide +kernel
theorem dL_faces_652 : decode cL_faces 652 = .ok (.if_icmp .ne 129, 3) := by decide +kernel
theorem dL_faces_655 : decode cL_faces 655 = .ok (.aload_n 0, 1) := by decide +kernel
theorem dL_faces_656 : decode cL_faces 656 = .ok (.iconst 1, 1) := by decide +kernel
theorem dL_faces_657 : decode cL_faces 657 = .ok (.iconst 1, 1) := by decide +kernel
theorem dL_faces_658 : decode cL_faces 658 = .ok (.iconst 3, 1) := by decide +kernel
theorem dL_faces_659 : decode cL_faces 659 = .ok (.iconst 0, 1) := by decide +kernel
theorem dL_faces_660 : decode cL_faces 660 = .ok (.invokevirtual 19, 3) := by decide +kernel
theorem dL_faces_663 : decode cL_faces 663 = .ok (.iconst 1, 1) := by decide +kernel
theorem dL_faces_664 : decode cL_faces 664 = .ok (.if_icmp .ne 117, 3) := by decide +kernel
theorem dL_faces_667 : decode cL_faces 667 = .ok (.aload_n 0, 1) := by decide +kernel
theorem dL_faces_668 : decode cL_faces 668 = .ok (.iconst 0, 1) := by decide +kernel
theorem dL_faces_669 : decode cL_faces 669 = .ok (.iconst 0, 1) := by decide +kernel
theorem dL_faces_670 : decode cL_faces 670 = .ok (.iconst 0, 1) := by decide +kernel
theorem dL_faces_671 : decode cL_faces 671 = .ok (.iconst 0, 1) := by decide +kernel
theorem dL_faces_672 : decode cL_faces 672 = .ok (.invokevirtual 19, 3) := by decide +kernel
theorem dL_faces_675 : decode cL_faces 675 = .ok (.iconst 2, 1) := by decide +kernel
theorem dL_faces_676 : decode cL_faces 676 = .ok (.if_icmp .ne 105, 3) := by decide +kernel
theorem dL_faces_679 : decode cL_faces 679 = .ok (.aload_n 0, 1) := by decide +kernel
theorem dL_faces_680 : decode cL_faces 680 = .ok (.iconst 1, 1) := by decide +kernel
theorem dL_faces_681 : decode cL_faces 681 = .ok (.iconst 1, 1) := by decide +kernel
theorem dL_faces_682 : decode cL_faces 682 = .ok (.invokevirtual 41, 3) := by decide +kernel
theorem dL_faces_685 : decode cL_faces 685 = .ok (.bipush 8, 2) := by decide +kernel
theorem dL_faces_687 : decode cL_faces 687 = .ok (.if_icmp .ne 94, 3) := by decide +kernel
theorem dL_faces_690 : decode cL_faces 690 = .ok (.aload_n 0, 1) := by decide +kernel
theorem dL_faces_691 : decode cL_faces 691 = .ok (.iconst 1, 1) := by decide +kernel
theorem dL_faces_692 : decode cL_faces 692 = .ok (.iconst 2, 1) := by decide +kernel
theorem dL_faces_693 : decode cL_faces 693 = .ok (.invokevirtual 41, 3) := by decide +kernel
theorem dL_faces_696 : decode cL_faces 696 = .ok (.ifCond .ne 85, 3) := by decide +kernel
theorem dL_faces_699 : decode cL_faces 699 = .ok (.aload_n 0, 1) := by decide +kernel
theorem dL_faces_700 : decode cL_faces 700 = .ok (.iconst 1, 1) := by decide +kernel
theorem dL_faces_701 : decode cL_faces 701 = .ok (.iconst 3, 1) := by decide +kernel
theorem dL_faces_702 : decode cL_faces 702 = .ok (.invokevirtual 41, 3) := by decide +kernel
theorem dL_faces_705 : decode cL_faces 705 = .ok (.iconst 1, 1) := by decide +kernel
theorem dL_faces_706 : decode cL_faces 706 = .ok (.if_icmp .ne 75, 3) := by decide +kernel
theorem dL_faces_709 : decode cL_faces 709 = .ok (.aload_n 0, 1) := by decide +kernel
theorem dL_faces_710 : decode cL_faces 710 = .ok (.iconst 1, 1) := by decide +kernel
theorem dL_faces_711 : decode cL_faces 711 = .ok (.iconst 0, 1) := by decide +kernel
theorem dL_faces_712 : decode cL_faces 712 = .ok (.invokevirtual 47, 3) := by decide +kernel
theorem dL_faces_715 : decode cL_faces 715 = .ok (.iconst (-1), 1) := by decide +kernel
theorem dL_faces_716 : decode cL_faces 716 = .ok (.if_icmp .ne 65, 3) := by decide +kernel
theorem dL_faces_719 : decode cL_faces 719 = .ok (.aload_n 0, 1) := by decide +kernel
theorem dL_faces_720 : decode cL_faces 720 = .ok (.iconst 5, 1) := by decide +kernel
theorem dL_faces_721 : decode cL_faces 721 = .ok (.iconst 0, 1) := by decide +kernel
theorem dL_faces_722 : decode cL_faces 722 = .ok (.invokevirtual 37, 3) := by decide +kernel
theorem dL_faces_725 : decode cL_faces 725 = .ok (.ifCond .eq 56, 3) := by decide +kernel
theorem dL_faces_728 : decode cL_faces 728 = .ok (.aload_n 0, 1) := by decide +kernel
theorem dL_faces_729 : decode cL_faces 729 = .ok (.iconst 1, 1) := by decide +kernel
theorem dL_faces_730 : decode cL_faces 730 = .ok (.iconst 1, 1) := by decide +kernel
theorem dL_faces_731 : decode cL_faces 731 = .ok (.invokevirtual 41, 3) := by decide +kernel
theorem dL_faces_734 : decode cL_faces 734 = .ok (.ifCond .ne 47, 3) := by decide +kernel
theorem dL_faces_737 : decode cL_faces 737 = .ok (.aload_n 0, 1) := by decide +kernel
theorem dL_faces_738 : decode cL_faces 738 = .ok (.iconst 1, 1) := by decide +kernel
theorem dL_faces_739 : decode cL_faces 739 = .ok (.iconst 1, 1) := by decide +kernel
theorem dL_faces_740 : decode cL_faces 740 = .ok (.invokevirtual 47, 3) := by decide +kernel
theorem dL_faces_743 : decode cL_faces 743 = .ok (.ifCond .ne 38, 3) := by decide +kernel
theorem dL_faces_746 : decode cL_faces 746 = .ok (.aload_n 0, 1) := by decide +kernel
theorem dL_faces_747 : decode cL_faces 747 = .ok (.iconst 0, 1) := by decide +kernel
theorem dL_faces_748 : decode cL_faces 748 = .ok (.iconst 0, 1) := by decide +kernel
theorem dL_faces_749 : decode cL_faces 749 = .ok (.invokevirtual 27, 3) := by decide +kernel
theorem dL_faces_752 : decode cL_faces 752 = .ok (.iconst (-1), 1) := by decide +kernel
theorem dL_faces_753 : decode cL_faces 753 = .ok (.if_icmp .ne 28, 3) := by decide +kernel
theorem dL_faces_756 : decode cL_faces 756 = .ok (.aload_n 0, 1) := by decide +kernel
theorem dL_faces_757 : decode cL_faces 757 = .ok (.iconst 0, 1) := by decide +kernel
theorem dL_faces_758 : decode cL_faces 758 = .ok (.iconst 0, 1) := by decide +kernel
theorem dL_faces_759 : decode cL_faces 759 = .ok (.iconst 1, 1) := by decide +kernel
theorem dL_faces_760 : decode cL_faces 760 = .ok (.invokevirtual 23, 3) := by decide +kernel
theorem dL_faces_763 : decode cL_faces 763 = .ok (.iconst 1, 1) := by decide +kernel
theorem dL_faces_764 : decode cL_faces 764 = .ok (.if_icmp .ne 17, 3) := by decide +kernel
theorem dL_faces_767 : decode cL_faces 767 = .ok (.aload_n 0, 1) := by decide +kernel
theorem dL_faces_768 : decode cL_faces 768 = .ok (.iconst 0, 1) := by decide +kernel
theorem dL_faces_769 : decode cL_faces 769 = .ok (.iconst 0, 1) := by decide +kernel
theorem dL_faces_770 : decode cL_faces 770 = .ok (.invokevirtual 41, 3) := by decide +kernel
theorem dL_faces_773 : decode cL_faces 773 = .ok (.iconst 2, 1) := by decide +kernel
theorem dL_faces_774 : decode cL_faces 774 = .ok (.if_icmp .ne 7, 3) := by decide +kernel
theorem dL_faces_777 : decode cL_faces 777 = .ok (.iconst 1, 1) := by decide +kernel
theorem dL_faces_778 : decode cL_faces 778 = .ok (.goto 4, 3) := by decide +kernel
theorem dL_faces_781 : decode cL_faces 781 = .ok (.iconst 0, 1) := by decide +kernel
theorem dL_faces_782 : decode cL_faces 782 = .ok (.ireturn, 1) := by decide +kernel
theorem dL_rules_0 : decode cL_rules 0 = .ok (.new 8, 3) := by decide +kernel
theorem dL_rules_3 : decode cL_rules 3 = .ok (.dup, 1) := by decide +kernel
theorem dL_rules_4 : decode cL_rules 4 = .ok (.invokespecial 99, 3) := by decide +kernel
theorem dL_rules_7 : decode cL_rules 7 = .ok (.astore_n 0, 1) := by decide +kernel
theorem dL_rules_8 : decode cL_rules 8 = .ok (.iconst 0, 1) := by decide +kernel
