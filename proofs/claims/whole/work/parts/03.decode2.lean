theorem dX6_keepClip_18 : decode cX6_keepClip 18 = .ok (.ireturn, 1) := by decide +kernel
theorem dX6_letGo_0 : decode cX6_letGo 0 = .ok (.iconst 0, 1) := by decide +kernel
theorem dX6_letGo_1 : decode cX6_letGo 1 = .ok (.istore_n 3, 1) := by decide +kernel
theorem dX6_letGo_2 : decode cX6_letGo 2 = .ok (.iconst 0, 1) := by decide +kernel
theorem dX6_letGo_3 : decode cX6_letGo 3 = .ok (.istore 4, 2) := by decide +kernel
theorem dX6_letGo_5 : decode cX6_letGo 5 = .ok (.iload 4, 2) := by decide +kernel
theorem dX6_letGo_7 : decode cX6_letGo 7 = .ok (.aload_n 0, 1) := by decide +kernel
theorem dX6_letGo_8 : decode cX6_letGo 8 = .ok (.getfield 25, 3) := by decide +kernel
theorem dX6_letGo_11 : decode cX6_letGo 11 = .ok (.invokevirtual 54, 3) := by decide +kernel
theorem dX6_letGo_14 : decode cX6_letGo 14 = .ok (.if_icmp .ge 91, 3) := by decide +kernel
theorem dX6_letGo_17 : decode cX6_letGo 17 = .ok (.aload_n 0, 1) := by decide +kernel
theorem dX6_letGo_18 : decode cX6_letGo 18 = .ok (.getfield 25, 3) := by decide +kernel
theorem dX6_letGo_21 : decode cX6_letGo 21 = .ok (.iload 4, 2) := by decide +kernel
theorem dX6_letGo_23 : decode cX6_letGo 23 = .ok (.invokevirtual 84, 3) := by decide +kernel
theorem dX6_letGo_26 : decode cX6_letGo 26 = .ok (.checkcast 397, 3) := by decide +kernel
theorem dX6_letGo_29 : decode cX6_letGo 29 = .ok (.astore 5, 2) := by decide +kernel
theorem dX6_letGo_31 : decode cX6_letGo 31 = .ok (.aload 5, 2) := by decide +kernel
theorem dX6_letGo_33 : decode cX6_letGo 33 = .ok (.iload_n 1, 1) := by decide +kernel
theorem dX6_letGo_34 : decode cX6_letGo 34 = .ok (.invokevirtual 466, 3) := by decide +kernel
theorem dX6_letGo_37 : decode cX6_letGo 37 = .ok (.ifCond .eq 21, 3) := by decide +kernel
theorem dX6_letGo_40 : decode cX6_letGo 40 = .ok (.iload_n 2, 1) := by decide +kernel
theorem dX6_letGo_41 : decode cX6_letGo 41 = .ok (.iconst (-1), 1) := by decide +kernel
theorem dX6_letGo_42 : decode cX6_letGo 42 = .ok (.if_icmp .eq 12, 3) := by decide +kernel
theorem dX6_letGo_45 : decode cX6_letGo 45 = .ok (.aload 5, 2) := by decide +kernel
theorem dX6_letGo_47 : decode cX6_letGo 47 = .ok (.getfield 469, 3) := by decide +kernel
theorem dX6_letGo_50 : decode cX6_letGo 50 = .ok (.iload_n 2, 1) := by decide +kernel
theorem dX6_letGo_51 : decode cX6_letGo 51 = .ok (.if_icmp .ne 7, 3) := by decide +kernel
theorem dX6_letGo_54 : decode cX6_letGo 54 = .ok (.iconst 1, 1) := by decide +kernel
theorem dX6_letGo_55 : decode cX6_letGo 55 = .ok (.goto 4, 3) := by decide +kernel
theorem dX6_letGo_58 : decode cX6_letGo 58 = .ok (.iconst 0, 1) := by decide +kernel
theorem dX6_letGo_59 : decode cX6_letGo 59 = .ok (.istore 6, 2) := by decide +kernel
theorem dX6_letGo_61 : decode cX6_letGo 61 = .ok (.aload 5, 2) := by decide +kernel
theorem dX6_letGo_63 : decode cX6_letGo 63 = .ok (.getfield 422, 3) := by decide +kernel
theorem dX6_letGo_66 : decode cX6_letGo 66 = .ok (.ifCond .ne 33, 3) := by decide +kernel
theorem dX6_letGo_69 : decode cX6_letGo 69 = .ok (.iload 6, 2) := by decide +kernel
theorem dX6_letGo_71 : decode cX6_letGo 71 = .ok (.ifCond .ne 11, 3) := by decide +kernel
theorem dX6_letGo_74 : decode cX6_letGo 74 = .ok (.aload 5, 2) := by decide +kernel
theorem dX6_letGo_76 : decode cX6_letGo 76 = .ok (.invokevirtual 472, 3) := by decide +kernel
theorem dX6_letGo_79 : decode cX6_letGo 79 = .ok (.ifCond .eq 20, 3) := by decide +kernel
theorem dX6_letGo_82 : decode cX6_letGo 82 = .ok (.aload 5, 2) := by decide +kernel
theorem dX6_letGo_84 : decode cX6_letGo 84 = .ok (.iconst 1, 1) := by decide +kernel
theorem dX6_letGo_85 : decode cX6_letGo 85 = .ok (.putfield 422, 3) := by decide +kernel
theorem dX6_letGo_88 : decode cX6_letGo 88 = .ok (.aload 5, 2) := by decide +kernel
theorem dX6_letGo_90 : decode cX6_letGo 90 = .ok (.getfield 444, 3) := by decide +kernel
theorem dX6_letGo_93 : decode cX6_letGo 93 = .ok (.invokevirtual 174, 3) := by decide +kernel
theorem dX6_letGo_96 : decode cX6_letGo 96 = .ok (.iinc 3 1, 3) := by decide +kernel
theorem dX6_letGo_99 : decode cX6_letGo 99 = .ok (.iinc 4 1, 3) := by decide +kernel
theorem dX6_letGo_102 : decode cX6_letGo 102 = .ok (.goto (-97), 3) := by decide +kernel
theorem dX6_letGo_105 : decode cX6_letGo 105 = .ok (.iload_n 3, 1) := by decide +kernel
theorem dX6_letGo_106 : decode cX6_letGo 106 = .ok (.ireturn, 1) := by decide +kernel
theorem dX6_countTicksAlike_0 : decode cX6_countTicksAlike 0 = .ok (.iconst 0, 1) := by decide +kernel
theorem dX6_countTicksAlike_1 : decode cX6_countTicksAlike 1 = .ok (.istore_n 1, 1) := by decide +kernel
theorem dX6_countTicksAlike_2 : decode cX6_countTicksAlike 2 = .ok (.iconst 0, 1) := by decide +kernel
theorem dX6_countTicksAlike_3 : decode cX6_countTicksAlike 3 = .ok (.istore_n 2, 1) := by decide +kernel
theorem dX6_countTicksAlike_4 : decode cX6_countTicksAlike 4 = .ok (.iload_n 2, 1) := by decide +kernel
theorem dX6_countTicksAlike_5 : decode cX6_countTicksAlike 5 = .ok (.aload_n 0, 1) := by decide +kernel
theorem dX6_countTicksAlike_6 : decode cX6_countTicksAlike 6 = .ok (.getfield 32, 3) := by decide +kernel
theorem dX6_countTicksAlike_9 : decode cX6_countTicksAlike 9 = .ok (.arraylength, 1) := by decide +kernel
theorem dX6_countTicksAlike_10 : decode cX6_countTicksAlike 10 = .ok (.if_icmp .ge 46, 3) := by decide +kernel
theorem dX6_countTicksAlike_13 : decode cX6_countTicksAlike 13 = .ok (.iload_n 2, 1) := by decide +kernel
theorem dX6_countTicksAlike_14 : decode cX6_countTicksAlike 14 = .ok (.aload_n 0, 1) := by decide +kernel
theorem dX6_countTicksAlike_15 : decode cX6_countTicksAlike 15 = .ok (.getfield 35, 3) := by decide +kernel
theorem dX6_countTicksAlike_18 : decode cX6_countTicksAlike 18 = .ok (.arraylength, 1) := by decide +kernel
theorem dX6_countTicksAlike_19 : decode cX6_countTicksAlike 19 = .ok (.if_icmp .ge 37, 3) := by decide +kernel
theorem dX6_countTicksAlike_22 : decode cX6_countTicksAlike 22 = .ok (.aload_n 0, 1) := by decide +kernel
theorem dX6_countTicksAlike_23 : decode cX6_countTicksAlike 23 = .ok (.getfield 32, 3) := by decide +kernel
theorem dX6_countTicksAlike_26 : decode cX6_countTicksAlike 26 = .ok (.iload_n 2, 1) := by decide +kernel
theorem dX6_countTicksAlike_27 : decode cX6_countTicksAlike 27 = .ok (.iaload, 1) := by decide +kernel
theorem dX6_countTicksAlike_28 : decode cX6_countTicksAlike 28 = .ok (.iconst (-1), 1) := by decide +kernel
theorem dX6_countTicksAlike_29 : decode cX6_countTicksAlike 29 = .ok (.if_icmp .eq 21, 3) := by decide +kernel
theorem dX6_countTicksAlike_32 : decode cX6_countTicksAlike 32 = .ok (.aload_n 0, 1) := by decide +kernel
theorem dX6_countTicksAlike_33 : decode cX6_countTicksAlike 33 = .ok (.getfield 32, 3) := by decide +kernel
theorem dX6_countTicksAlike_36 : decode cX6_countTicksAlike 36 = .ok (.iload_n 2, 1) := by decide +kernel
theorem dX6_countTicksAlike_37 : decode cX6_countTicksAlike 37 = .ok (.iaload, 1) := by decide +kernel
theorem dX6_countTicksAlike_38 : decode cX6_countTicksAlike 38 = .ok (.aload_n 0, 1) := by decide +kernel
theorem dX6_countTicksAlike_39 : decode cX6_countTicksAlike 39 = .ok (.getfield 35, 3) := by decide +kernel
theorem dX6_countTicksAlike_42 : decode cX6_countTicksAlike 42 = .ok (.iload_n 2, 1) := by decide +kernel
theorem dX6_countTicksAlike_43 : decode cX6_countTicksAlike 43 = .ok (.iaload, 1) := by decide +kernel
theorem dX6_countTicksAlike_44 : decode cX6_countTicksAlike 44 = .ok (.if_icmp .ne 6, 3) := by decide +kernel
theorem dX6_countTicksAlike_47 : decode cX6_countTicksAlike 47 = .ok (.iinc 1 1, 3) := by decide +kernel
theorem dX6_countTicksAlike_50 : decode cX6_countTicksAlike 50 = .ok (.iinc 2 1, 3) := by decide +kernel
theorem dX6_countTicksAlike_53 : decode cX6_countTicksAlike 53 = .ok (.goto (-49), 3) := by decide +kernel
theorem dX6_countTicksAlike_56 : decode cX6_countTicksAlike 56 = .ok (.iload_n 1, 1) := by decide +kernel
theorem dX6_countTicksAlike_57 : decode cX6_countTicksAlike 57 = .ok (.ireturn, 1) := by decide +kernel
theorem dX6_countTicksWithValue_0 : decode cX6_countTicksWithValue 0 = .ok (.iconst 0, 1) := by decide +kernel
theorem dX6_countTicksWithValue_1 : decode cX6_countTicksWithValue 1 = .ok (.istore_n 1, 1) := by decide +kernel
theorem dX6_countTicksWithValue_2 : decode cX6_countTicksWithValue 2 = .ok (.iconst 0, 1) := by decide +kernel
theorem dX6_countTicksWithValue_3 : decode cX6_countTicksWithValue 3 = .ok (.istore_n 2, 1) := by decide +kernel
theorem dX6_countTicksWithValue_4 : decode cX6_countTicksWithValue 4 = .ok (.iload_n 2, 1) := by decide +kernel
theorem dX6_countTicksWithValue_5 : decode cX6_countTicksWithValue 5 = .ok (.aload_n 0, 1) := by decide +kernel
theorem dX6_countTicksWithValue_6 : decode cX6_countTicksWithValue 6 = .ok (.getfield 32, 3) := by decide +kernel
theorem dX6_countTicksWithValue_9 : decode cX6_countTicksWithValue 9 = .ok (.arraylength, 1) := by decide +kernel
theorem dX6_countTicksWithValue_10 : decode cX6_countTicksWithValue 10 = .ok (.if_icmp .ge 41, 3) := by decide +kernel
theorem dX6_countTicksWithValue_13 : decode cX6_countTicksWithValue 13 = .ok (.iload_n 2, 1) := by decide +kernel
theorem dX6_countTicksWithValue_14 : decode cX6_countTicksWithValue 14 = .ok (.aload_n 0, 1) := by decide +kernel
theorem dX6_countTicksWithValue_15 : decode cX6_countTicksWithValue 15 = .ok (.getfield 35, 3) := by decide +kernel
theorem dX6_countTicksWithValue_18 : decode cX6_countTicksWithValue 18 = .ok (.arraylength, 1) := by decide +kernel
theorem dX6_countTicksWithValue_19 : decode cX6_countTicksWithValue 19 = .ok (.if_icmp .ge 32, 3) := by decide +kernel
theorem dX6_countTicksWithValue_22 : decode cX6_countTicksWithValue 22 = .ok (.aload_n 0, 1) := by decide +kernel
theorem dX6_countTicksWithValue_23 : decode cX6_countTicksWithValue 23 = .ok (.getfield 32, 3) := by decide +kernel
theorem dX6_countTicksWithValue_26 : decode cX6_countTicksWithValue 26 = .ok (.iload_n 2, 1) := by decide +kernel
theorem dX6_countTicksWithValue_27 : decode cX6_countTicksWithValue 27 = .ok (.iaload, 1) := by decide +kernel
theorem dX6_countTicksWithValue_28 : decode cX6_countTicksWithValue 28 = .ok (.iconst (-1), 1) := by decide +kernel
theorem dX6_countTicksWithValue_29 : decode cX6_countTicksWithValue 29 = .ok (.if_icmp .ne 13, 3) := by decide +kernel
theorem dX6_countTicksWithValue_32 : decode cX6_countTicksWithValue 32 = .ok (.aload_n 0, 1) := by decide +kernel
theorem dX6_countTicksWithValue_33 : decode cX6_countTicksWithValue 33 = .ok (.getfield 35, 3) := by decide +kernel
theorem dX6_countTicksWithValue_36 : decode cX6_countTicksWithValue 36 = .ok (.iload_n 2, 1) := by decide +kernel
theorem dX6_countTicksWithValue_37 : decode cX6_countTicksWithValue 37 = .ok (.iaload, 1) := by decide +kernel
theorem dX6_countTicksWithValue_38 : decode cX6_countTicksWithValue 38 = .ok (.iconst (-1), 1) := by decide +kernel
theorem dX6_countTicksWithValue_39 : decode cX6_countTicksWithValue 39 = .ok (.if_icmp .eq 6, 3) := by decide +kernel
theorem dX6_countTicksWithValue_42 : decode cX6_countTicksWithValue 42 = .ok (.iinc 1 1, 3) := by decide +kernel
theorem dX6_countTicksWithValue_45 : decode cX6_countTicksWithValue 45 = .ok (.iinc 2 1, 3) := by decide +kernel
theorem dX6_countTicksWithValue_48 : decode cX6_countTicksWithValue 48 = .ok (.goto (-44), 3) := by decide +kernel
theorem dX6_countTicksWithValue_51 : decode cX6_countTicksWithValue 51 = .ok (.iload_n 1, 1) := by decide +kernel
theorem dX6_countTicksWithValue_52 : decode cX6_countTicksWithValue 52 = .ok (.ireturn, 1) := by decide +kernel
theorem dX6_countMarksShared_0 : decode cX6_countMarksShared 0 = .ok (.iconst 0, 1) := by decide +kernel
theorem dX6_countMarksShared_1 : decode cX6_countMarksShared 1 = .ok (.istore 4, 2) := by decide +kernel
theorem dX6_countMarksShared_3 : decode cX6_countMarksShared 3 = .ok (.iconst 0, 1) := by decide +kernel
theorem dX6_countMarksShared_4 : decode cX6_countMarksShared 4 = .ok (.istore 5, 2) := by decide +kernel
theorem dX6_countMarksShared_6 : decode cX6_countMarksShared 6 = .ok (.iload 5, 2) := by decide +kernel
theorem dX6_countMarksShared_8 : decode cX6_countMarksShared 8 = .ok (.aload_n 1, 1) := by decide +kernel
theorem dX6_countMarksShared_9 : decode cX6_countMarksShared 9 = .ok (.getfield 444, 3) := by decide +kernel
theorem dX6_countMarksShared_12 : decode cX6_countMarksShared 12 = .ok (.invokevirtual 54, 3) := by decide +kernel
theorem dX6_countMarksShared_15 : decode cX6_countMarksShared 15 = .ok (.if_icmp .ge 61, 3) := by decide +kernel
theorem dX6_countMarksShared_18 : decode cX6_countMarksShared 18 = .ok (.aload_n 1, 1) := by decide +kernel
theorem dX6_countMarksShared_19 : decode cX6_countMarksShared 19 = .ok (.getfield 444, 3) := by decide +kernel
theorem dX6_countMarksShared_22 : decode cX6_countMarksShared 22 = .ok (.iload 5, 2) := by decide +kernel
theorem dX6_countMarksShared_24 : decode cX6_countMarksShared 24 = .ok (.invokevirtual 84, 3) := by decide +kernel
theorem dX6_countMarksShared_27 : decode cX6_countMarksShared 27 = .ok (.checkcast 447, 3) := by decide +kernel
theorem dX6_countMarksShared_30 : decode cX6_countMarksShared 30 = .ok (.astore 6, 2) := by decide +kernel
theorem dX6_countMarksShared_32 : decode cX6_countMarksShared 32 = .ok (.aload 6, 2) := by decide +kernel
theorem dX6_countMarksShared_34 : decode cX6_countMarksShared 34 = .ok (.iload_n 2, 1) := by decide +kernel
theorem dX6_countMarksShared_35 : decode cX6_countMarksShared 35 = .ok (.iload_n 3, 1) := by decide +kernel
theorem dX6_countMarksShared_36 : decode cX6_countMarksShared 36 = .ok (.invokevirtual 475, 3) := by decide +kernel
theorem dX6_countMarksShared_39 : decode cX6_countMarksShared 39 = .ok (.ifCond .eq 31, 3) := by decide +kernel
theorem dX6_countMarksShared_42 : decode cX6_countMarksShared 42 = .ok (.iconst 2, 1) := by decide +kernel
theorem dX6_countMarksShared_43 : decode cX6_countMarksShared 43 = .ok (.aload 6, 2) := by decide +kernel
theorem dX6_countMarksShared_45 : decode cX6_countMarksShared 45 = .ok (.aload_n 0, 1) := by decide +kernel
theorem dX6_countMarksShared_46 : decode cX6_countMarksShared 46 = .ok (.getfield 35, 3) := by decide +kernel
theorem dX6_countMarksShared_49 : decode cX6_countMarksShared 49 = .ok (.invokevirtual 478, 3) := by decide +kernel
theorem dX6_countMarksShared_52 : decode cX6_countMarksShared 52 = .ok (.imul, 1) := by decide +kernel
theorem dX6_countMarksShared_53 : decode cX6_countMarksShared 53 = .ok (.aload 6, 2) := by decide +kernel
theorem dX6_countMarksShared_55 : decode cX6_countMarksShared 55 = .ok (.getfield 482, 3) := by decide +kernel
theorem dX6_countMarksShared_58 : decode cX6_countMarksShared 58 = .ok (.aload 6, 2) := by decide +kernel
theorem dX6_countMarksShared_60 : decode cX6_countMarksShared 60 = .ok (.getfield 483, 3) := by decide +kernel
theorem dX6_countMarksShared_63 : decode cX6_countMarksShared 63 = .ok (.isub, 1) := by decide +kernel
theorem dX6_countMarksShared_64 : decode cX6_countMarksShared 64 = .ok (.if_icmp .le 6, 3) := by decide +kernel
theorem dX6_countMarksShared_67 : decode cX6_countMarksShared 67 = .ok (.iinc 4 1, 3) := by decide +kernel
theorem dX6_countMarksShared_70 : decode cX6_countMarksShared 70 = .ok (.iinc 5 1, 3) := by decide +kernel
theorem dX6_countMarksShared_73 : decode cX6_countMarksShared 73 = .ok (.goto (-67), 3) := by decide +kernel
theorem dX6_countMarksShared_76 : decode cX6_countMarksShared 76 = .ok (.iload 4, 2) := by decide +kernel
theorem dX6_countMarksShared_78 : decode cX6_countMarksShared 78 = .ok (.ireturn, 1) := by decide +kernel
theorem dX6_requireClip_0 : decode cX6_requireClip 0 = .ok (.iload_n 1, 1) := by decide +kernel
theorem dX6_requireClip_1 : decode cX6_requireClip 1 = .ok (.aload_n 0, 1) := by decide +kernel
theorem dX6_requireClip_2 : decode cX6_requireClip 2 = .ok (.getfield 25, 3) := by decide +kernel
theorem dX6_requireClip_5 : decode cX6_requireClip 5 = .ok (.invokevirtual 54, 3) := by decide +kernel
theorem dX6_requireClip_8 : decode cX6_requireClip 8 = .ok (.invokestatic 38, 3) := by decide +kernel
theorem dX6_requireClip_11 : decode cX6_requireClip 11 = .ok (.ifCond .eq 20, 3) := by decide +kernel
theorem dX6_requireClip_14 : decode cX6_requireClip 14 = .ok (.aload_n 0, 1) := by decide +kernel
theorem dX6_requireClip_15 : decode cX6_requireClip 15 = .ok (.getfield 25, 3) := by decide +kernel
theorem dX6_requireClip_18 : decode cX6_requireClip 18 = .ok (.iload_n 1, 1) := by decide +kernel
theorem dX6_requireClip_19 : decode cX6_requireClip 19 = .ok (.invokevirtual 84, 3) := by decide +kernel
theorem dX6_requireClip_22 : decode cX6_requireClip 22 = .ok (.checkcast 397, 3) := by decide +kernel
theorem dX6_requireClip_25 : decode cX6_requireClip 25 = .ok (.getfield 422, 3) := by decide +kernel
theorem dX6_requireClip_28 : decode cX6_requireClip 28 = .ok (.ifCond .eq 14, 3) := by decide +kernel
theorem dX6_requireClip_31 : decode cX6_requireClip 31 = .ok (.new 140, 3) := by decide +kernel
theorem dX6_requireClip_34 : decode cX6_requireClip 34 = .ok (.dup, 1) := by decide +kernel
theorem dX6_requireClip_35 : decode cX6_requireClip 35 = .ok (.ldc_w 484, 3) := by decide +kernel
theorem dX6_requireClip_38 : decode cX6_requireClip 38 = .ok (.invokespecial 144, 3) := by decide +kernel
theorem dX6_requireClip_41 : decode cX6_requireClip 41 = .ok (.athrow, 1) := by decide +kernel
theorem dX6_requireClip_42 : decode cX6_requireClip 42 = .ok (.return_, 1) := by decide +kernel
theorem dX6_requirePerson_0 : decode cX6_requirePerson 0 = .ok (.iload_n 0, 1) := by decide +kernel
theorem dX6_requirePerson_1 : decode cX6_requirePerson 1 = .ok (.bipush 6, 2) := by decide +kernel
theorem dX6_requirePerson_3 : decode cX6_requirePerson 3 = .ok (.invokestatic 38, 3) := by decide +kernel
theorem dX6_requirePerson_6 : decode cX6_requirePerson 6 = .ok (.ifCond .ne 14, 3) := by decide +kernel
theorem dX6_requirePerson_9 : decode cX6_requirePerson 9 = .ok (.new 140, 3) := by decide +kernel
theorem dX6_requirePerson_12 : decode cX6_requirePerson 12 = .ok (.dup, 1) := by decide +kernel
theorem dX6_requirePerson_13 : decode cX6_requirePerson 13 = .ok (.ldc_w 486, 3) := by decide +kernel
theorem dX6_requirePerson_16 : decode cX6_requirePerson 16 = .ok (.invokespecial 144, 3) := by decide +kernel
theorem dX6_requirePerson_19 : decode cX6_requirePerson 19 = .ok (.athrow, 1) := by decide +kernel
theorem dX6_requirePerson_20 : decode cX6_requirePerson 20 = .ok (.return_, 1) := by decide +kernel
theorem dX6_requirePurpose_0 : decode cX6_requirePurpose 0 = .ok (.iload_n 0, 1) := by decide +kernel
theorem dX6_requirePurpose_1 : decode cX6_requirePurpose 1 = .ok (.iconst 3, 1) := by decide +kernel
theorem dX6_requirePurpose_2 : decode cX6_requirePurpose 2 = .ok (.invokestatic 38, 3) := by decide +kernel
theorem dX6_requirePurpose_5 : decode cX6_requirePurpose 5 = .ok (.ifCond .ne 14, 3) := by decide +kernel
theorem dX6_requirePurpose_8 : decode cX6_requirePurpose 8 = .ok (.new 42, 3) := by decide +kernel
theorem dX6_requirePurpose_11 : decode cX6_requirePurpose 11 = .ok (.dup, 1) := by decide +kernel
theorem dX6_requirePurpose_12 : decode cX6_requirePurpose 12 = .ok (.ldc_w 488, 3) := by decide +kernel
theorem dX6_requirePurpose_15 : decode cX6_requirePurpose 15 = .ok (.invokespecial 46, 3) := by decide +kernel
theorem dX6_requirePurpose_18 : decode cX6_requirePurpose 18 = .ok (.athrow, 1) := by decide +kernel
theorem dX6_requirePurpose_19 : decode cX6_requirePurpose 19 = .ok (.return_, 1) := by decide +kernel
theorem dX6_requireCoder_0 : decode cX6_requireCoder 0 = .ok (.iload_n 0, 1) := by decide +kernel
theorem dX6_requireCoder_1 : decode cX6_requireCoder 1 = .ok (.iconst 3, 1) := by decide +kernel
theorem dX6_requireCoder_2 : decode cX6_requireCoder 2 = .ok (.invokestatic 38, 3) := by decide +kernel
theorem dX6_requireCoder_5 : decode cX6_requireCoder 5 = .ok (.ifCond .ne 14, 3) := by decide +kernel
theorem dX6_requireCoder_8 : decode cX6_requireCoder 8 = .ok (.new 140, 3) := by decide +kernel
theorem dX6_requireCoder_11 : decode cX6_requireCoder 11 = .ok (.dup, 1) := by decide +kernel
theorem dX6_requireCoder_12 : decode cX6_requireCoder 12 = .ok (.ldc_w 490, 3) := by decide +kernel
theorem dX6_requireCoder_15 : decode cX6_requireCoder 15 = .ok (.invokespecial 144, 3) := by decide +kernel
theorem dX6_requireCoder_18 : decode cX6_requireCoder 18 = .ok (.athrow, 1) := by decide +kernel
theorem dX6_requireCoder_19 : decode cX6_requireCoder 19 = .ok (.return_, 1) := by decide +kernel
theorem dX6_requireTier_0 : decode cX6_requireTier 0 = .ok (.iload_n 0, 1) := by decide +kernel
theorem dX6_requireTier_1 : decode cX6_requireTier 1 = .ok (.iconst 4, 1) := by decide +kernel
theorem dX6_requireTier_2 : decode cX6_requireTier 2 = .ok (.invokestatic 38, 3) := by decide +kernel
theorem dX6_requireTier_5 : decode cX6_requireTier 5 = .ok (.ifCond .ne 14, 3) := by decide +kernel
theorem dX6_requireTier_8 : decode cX6_requireTier 8 = .ok (.new 140, 3) := by decide +kernel
theorem dX6_requireTier_11 : decode cX6_requireTier 11 = .ok (.dup, 1) := by decide +kernel
theorem dX6_requireTier_12 : decode cX6_requireTier 12 = .ok (.ldc_w 492, 3) := by decide +kernel
theorem dX6_requireTier_15 : decode cX6_requireTier 15 = .ok (.invokespecial 144, 3) := by decide +kernel
theorem dX6_requireTier_18 : decode cX6_requireTier 18 = .ok (.athrow, 1) := by decide +kernel
theorem dX6_requireTier_19 : decode cX6_requireTier 19 = .ok (.return_, 1) := by decide +kernel
theorem dX6_isBelow_0 : decode cX6_isBelow 0 = .ok (.iload_n 0, 1) := by decide +kernel
theorem dX6_isBelow_1 : decode cX6_isBelow 1 = .ok (.ifCond .lt 12, 3) := by decide +kernel
theorem dX6_isBelow_4 : decode cX6_isBelow 4 = .ok (.iload_n 0, 1) := by decide +kernel
theorem dX6_isBelow_5 : decode cX6_isBelow 5 = .ok (.iload_n 1, 1) := by decide +kernel
theorem dX6_isBelow_6 : decode cX6_isBelow 6 = .ok (.if_icmp .ge 7, 3) := by decide +kernel
theorem dX6_isBelow_9 : decode cX6_isBelow 9 = .ok (.iconst 1, 1) := by decide +kernel
theorem dX6_isBelow_10 : decode cX6_isBelow 10 = .ok (.goto 4, 3) := by decide +kernel
theorem dX6_isBelow_13 : decode cX6_isBelow 13 = .ok (.iconst 0, 1) := by decide +kernel
theorem dX6_isBelow_14 : decode cX6_isBelow 14 = .ok (.ireturn, 1) := by decide +kernel
theorem dX6_rowOf_0 : decode cX6_rowOf 0 = .ok (.iload_n 0, 1) := by decide +kernel
theorem dX6_rowOf_1 : decode cX6_rowOf 1 = .ok (.iconst 3, 1) := by decide +kernel
theorem dX6_rowOf_2 : decode cX6_rowOf 2 = .ok (.idiv, 1) := by decide +kernel
theorem dX6_rowOf_3 : decode cX6_rowOf 3 = .ok (.ireturn, 1) := by decide +kernel
theorem dX6_columnOf_0 : decode cX6_columnOf 0 = .ok (.iload_n 0, 1) := by decide +kernel
theorem dX6_columnOf_1 : decode cX6_columnOf 1 = .ok (.iconst 3, 1) := by decide +kernel
theorem dX6_columnOf_2 : decode cX6_columnOf 2 = .ok (.irem, 1) := by decide +kernel
theorem dX6_columnOf_3 : decode cX6_columnOf 3 = .ok (.ireturn, 1) := by decide +kernel
theorem dX6_distance_0 : decode cX6_distance 0 = .ok (.iload_n 0, 1) := by decide +kernel
theorem dX6_distance_1 : decode cX6_distance 1 = .ok (.invokestatic 121, 3) := by decide +kernel
theorem dX6_distance_4 : decode cX6_distance 4 = .ok (.iload_n 1, 1) := by decide +kernel
theorem dX6_distance_5 : decode cX6_distance 5 = .ok (.invokestatic 121, 3) := by decide +kernel
theorem dX6_distance_8 : decode cX6_distance 8 = .ok (.isub, 1) := by decide +kernel
theorem dX6_distance_9 : decode cX6_distance 9 = .ok (.invokestatic 314, 3) := by decide +kernel
theorem dX6_distance_12 : decode cX6_distance 12 = .ok (.iload_n 0, 1) := by decide +kernel
theorem dX6_distance_13 : decode cX6_distance 13 = .ok (.invokestatic 129, 3) := by decide +kernel
theorem dX6_distance_16 : decode cX6_distance 16 = .ok (.iload_n 1, 1) := by decide +kernel
theorem dX6_distance_17 : decode cX6_distance 17 = .ok (.invokestatic 129, 3) := by decide +kernel
theorem dX6_distance_20 : decode cX6_distance 20 = .ok (.isub, 1) := by decide +kernel
theorem dX6_distance_21 : decode cX6_distance 21 = .ok (.invokestatic 314, 3) := by decide +kernel
theorem dX6_distance_24 : decode cX6_distance 24 = .ok (.iadd, 1) := by decide +kernel
theorem dX6_distance_25 : decode cX6_distance 25 = .ok (.ireturn, 1) := by decide +kernel
theorem dX6_direction_0 : decode cX6_direction 0 = .ok (.iload_n 1, 1) := by decide +kernel
theorem dX6_direction_1 : decode cX6_direction 1 = .ok (.iload_n 0, 1) := by decide +kernel
theorem dX6_direction_2 : decode cX6_direction 2 = .ok (.if_icmp .ne 5, 3) := by decide +kernel
theorem dX6_direction_5 : decode cX6_direction 5 = .ok (.iconst 0, 1) := by decide +kernel
theorem dX6_direction_6 : decode cX6_direction 6 = .ok (.ireturn, 1) := by decide +kernel
theorem dX6_direction_7 : decode cX6_direction 7 = .ok (.iload_n 1, 1) := by decide +kernel
theorem dX6_direction_8 : decode cX6_direction 8 = .ok (.iload_n 0, 1) := by decide +kernel
theorem dX6_direction_9 : decode cX6_direction 9 = .ok (.if_icmp .le 7, 3) := by decide +kernel
theorem dX6_direction_12 : decode cX6_direction 12 = .ok (.iconst 1, 1) := by decide +kernel
theorem dX6_direction_13 : decode cX6_direction 13 = .ok (.goto 4, 3) := by decide +kernel
theorem dX6_direction_16 : decode cX6_direction 16 = .ok (.iconst (-1), 1) := by decide +kernel
theorem dX6_direction_17 : decode cX6_direction 17 = .ok (.ireturn, 1) := by decide +kernel
theorem dX7_init_0 : decode cX7_init 0 = .ok (.aload_n 0, 1) := by decide +kernel
theorem dX7_init_1 : decode cX7_init 1 = .ok (.invokespecial 1, 3) := by decide +kernel
theorem dX7_init_4 : decode cX7_init 4 = .ok (.aload_n 0, 1) := by decide +kernel
theorem dX7_init_5 : decode cX7_init 5 = .ok (.sipush 210, 3) := by decide +kernel
theorem dX7_init_8 : decode cX7_init 8 = .ok (.newarray .int, 2) := by decide +kernel
theorem dX7_init_10 : decode cX7_init 10 = .ok (.putfield 7, 3) := by decide +kernel
theorem dX7_init_13 : decode cX7_init 13 = .ok (.aload_n 0, 1) := by decide +kernel
theorem dX7_init_14 : decode cX7_init 14 = .ok (.bipush 14, 2) := by decide +kernel
theorem dX7_init_16 : decode cX7_init 16 = .ok (.newarray .int, 2) := by decide +kernel
theorem dX7_init_18 : decode cX7_init 18 = .ok (.putfield 13, 3) := by decide +kernel
theorem dX7_init_21 : decode cX7_init 21 = .ok (.aload_n 0, 1) := by decide +kernel
theorem dX7_init_22 : decode cX7_init 22 = .ok (.bipush 14, 2) := by decide +kernel
theorem dX7_init_24 : decode cX7_init 24 = .ok (.newarray .int, 2) := by decide +kernel
theorem dX7_init_26 : decode cX7_init 26 = .ok (.putfield 16, 3) := by decide +kernel
theorem dX7_init_29 : decode cX7_init 29 = .ok (.aload_n 0, 1) := by decide +kernel
theorem dX7_init_30 : decode cX7_init 30 = .ok (.bipush 14, 2) := by decide +kernel
theorem dX7_init_32 : decode cX7_init 32 = .ok (.newarray .int, 2) := by decide +kernel
theorem dX7_init_34 : decode cX7_init 34 = .ok (.putfield 19, 3) := by decide +kernel
theorem dX7_init_37 : decode cX7_init 37 = .ok (.aload_n 0, 1) := by decide +kernel
theorem dX7_init_38 : decode cX7_init 38 = .ok (.bipush 14, 2) := by decide +kernel
theorem dX7_init_40 : decode cX7_init 40 = .ok (.newarray .int, 2) := by decide +kernel
theorem dX7_init_42 : decode cX7_init 42 = .ok (.putfield 22, 3) := by decide +kernel
theorem dX7_init_45 : decode cX7_init 45 = .ok (.aload_n 0, 1) := by decide +kernel
theorem dX7_init_46 : decode cX7_init 46 = .ok (.iconst 4, 1) := by decide +kernel
theorem dX7_init_47 : decode cX7_init 47 = .ok (.newarray .int, 2) := by decide +kernel
theorem dX7_init_49 : decode cX7_init 49 = .ok (.putfield 25, 3) := by decide +kernel
theorem dX7_init_52 : decode cX7_init 52 = .ok (.aload_n 0, 1) := by decide +kernel
theorem dX7_init_53 : decode cX7_init 53 = .ok (.bipush 8, 2) := by decide +kernel
theorem dX7_init_55 : decode cX7_init 55 = .ok (.newarray .int, 2) := by decide +kernel
theorem dX7_init_57 : decode cX7_init 57 = .ok (.putfield 28, 3) := by decide +kernel
theorem dX7_init_60 : decode cX7_init 60 = .ok (.aload_n 0, 1) := by decide +kernel
theorem dX7_init_61 : decode cX7_init 61 = .ok (.bipush 8, 2) := by decide +kernel
theorem dX7_init_63 : decode cX7_init 63 = .ok (.newarray .int, 2) := by decide +kernel
theorem dX7_init_65 : decode cX7_init 65 = .ok (.putfield 31, 3) := by decide +kernel
theorem dX7_init_68 : decode cX7_init 68 = .ok (.aload_n 0, 1) := by decide +kernel
theorem dX7_init_69 : decode cX7_init 69 = .ok (.bipush 8, 2) := by decide +kernel
theorem dX7_init_71 : decode cX7_init 71 = .ok (.newarray .int, 2) := by decide +kernel
theorem dX7_init_73 : decode cX7_init 73 = .ok (.putfield 34, 3) := by decide +kernel
theorem dX7_init_76 : decode cX7_init 76 = .ok (.aload_n 0, 1) := by decide +kernel
theorem dX7_init_77 : decode cX7_init 77 = .ok (.bipush 6, 2) := by decide +kernel
theorem dX7_init_79 : decode cX7_init 79 = .ok (.newarray .int, 2) := by decide +kernel
theorem dX7_init_81 : decode cX7_init 81 = .ok (.putfield 37, 3) := by decide +kernel
theorem dX7_init_84 : decode cX7_init 84 = .ok (.aload_n 0, 1) := by decide +kernel
theorem dX7_init_85 : decode cX7_init 85 = .ok (.bipush 6, 2) := by decide +kernel
theorem dX7_init_87 : decode cX7_init 87 = .ok (.newarray .int, 2) := by decide +kernel
theorem dX7_init_89 : decode cX7_init 89 = .ok (.putfield 40, 3) := by decide +kernel
theorem dX7_init_92 : decode cX7_init 92 = .ok (.aload_n 0, 1) := by decide +kernel
theorem dX7_init_93 : decode cX7_init 93 = .ok (.bipush 24, 2) := by decide +kernel
theorem dX7_init_95 : decode cX7_init 95 = .ok (.newarray .boolean, 2) := by decide +kernel
theorem dX7_init_97 : decode cX7_init 97 = .ok (.putfield 43, 3) := by decide +kernel
theorem dX7_init_100 : decode cX7_init 100 = .ok (.aload_n 0, 1) := by decide +kernel
theorem dX7_init_101 : decode cX7_init 101 = .ok (.bipush 24, 2) := by decide +kernel
theorem dX7_init_103 : decode cX7_init 103 = .ok (.newarray .int, 2) := by decide +kernel
theorem dX7_init_105 : decode cX7_init 105 = .ok (.putfield 47, 3) := by decide +kernel
theorem dX7_init_108 : decode cX7_init 108 = .ok (.aload_n 0, 1) := by decide +kernel
theorem dX7_init_109 : decode cX7_init 109 = .ok (.bipush 24, 2) := by decide +kernel
theorem dX7_init_111 : decode cX7_init 111 = .ok (.newarray .int, 2) := by decide +kernel
theorem dX7_init_113 : decode cX7_init 113 = .ok (.putfield 50, 3) := by decide +kernel
theorem dX7_init_116 : decode cX7_init 116 = .ok (.aload_n 0, 1) := by decide +kernel
theorem dX7_init_117 : decode cX7_init 117 = .ok (.bipush 24, 2) := by decide +kernel
theorem dX7_init_119 : decode cX7_init 119 = .ok (.newarray .int, 2) := by decide +kernel
theorem dX7_init_121 : decode cX7_init 121 = .ok (.putfield 53, 3) := by decide +kernel
theorem dX7_init_124 : decode cX7_init 124 = .ok (.aload_n 0, 1) := by decide +kernel
theorem dX7_init_125 : decode cX7_init 125 = .ok (.bipush 24, 2) := by decide +kernel
theorem dX7_init_127 : decode cX7_init 127 = .ok (.newarray .int, 2) := by decide +kernel
theorem dX7_init_129 : decode cX7_init 129 = .ok (.putfield 56, 3) := by decide +kernel
theorem dX7_init_132 : decode cX7_init 132 = .ok (.aload_n 0, 1) := by decide +kernel
theorem dX7_init_133 : decode cX7_init 133 = .ok (.bipush 6, 2) := by decide +kernel
theorem dX7_init_135 : decode cX7_init 135 = .ok (.newarray .int, 2) := by decide +kernel
theorem dX7_init_137 : decode cX7_init 137 = .ok (.putfield 59, 3) := by decide +kernel
theorem dX7_init_140 : decode cX7_init 140 = .ok (.aload_n 0, 1) := by decide +kernel
theorem dX7_init_141 : decode cX7_init 141 = .ok (.ldc 62, 2) := by decide +kernel
theorem dX7_init_143 : decode cX7_init 143 = .ok (.newarray .int, 2) := by decide +kernel
theorem dX7_init_145 : decode cX7_init 145 = .ok (.putfield 63, 3) := by decide +kernel
theorem dX7_init_148 : decode cX7_init 148 = .ok (.aload_n 0, 1) := by decide +kernel
theorem dX7_init_149 : decode cX7_init 149 = .ok (.sipush 288, 3) := by decide +kernel
theorem dX7_init_152 : decode cX7_init 152 = .ok (.newarray .int, 2) := by decide +kernel
theorem dX7_init_154 : decode cX7_init 154 = .ok (.putfield 66, 3) := by decide +kernel
theorem dX7_init_157 : decode cX7_init 157 = .ok (.aload_n 0, 1) := by decide +kernel
theorem dX7_init_158 : decode cX7_init 158 = .ok (.sipush 2880, 3) := by decide +kernel
theorem dX7_init_161 : decode cX7_init 161 = .ok (.newarray .int, 2) := by decide +kernel
theorem dX7_init_163 : decode cX7_init 163 = .ok (.putfield 69, 3) := by decide +kernel
theorem dX7_init_166 : decode cX7_init 166 = .ok (.aload_n 0, 1) := by decide +kernel
theorem dX7_init_167 : decode cX7_init 167 = .ok (.sipush 2880, 3) := by decide +kernel
theorem dX7_init_170 : decode cX7_init 170 = .ok (.newarray .int, 2) := by decide +kernel
theorem dX7_init_172 : decode cX7_init 172 = .ok (.putfield 72, 3) := by decide +kernel
theorem dX7_init_175 : decode cX7_init 175 = .ok (.aload_n 0, 1) := by decide +kernel
theorem dX7_init_176 : decode cX7_init 176 = .ok (.bipush 98, 2) := by decide +kernel
theorem dX7_init_178 : decode cX7_init 178 = .ok (.newarray .int, 2) := by decide +kernel
theorem dX7_init_180 : decode cX7_init 180 = .ok (.putfield 75, 3) := by decide +kernel
theorem dX7_init_183 : decode cX7_init 183 = .ok (.iconst 0, 1) := by decide +kernel
theorem dX7_init_184 : decode cX7_init 184 = .ok (.istore_n 1, 1) := by decide +kernel
theorem dX7_init_185 : decode cX7_init 185 = .ok (.iload_n 1, 1) := by decide +kernel
theorem dX7_init_186 : decode cX7_init 186 = .ok (.iconst 4, 1) := by decide +kernel
theorem dX7_init_187 : decode cX7_init 187 = .ok (.if_icmp .ge 16, 3) := by decide +kernel
theorem dX7_init_190 : decode cX7_init 190 = .ok (.aload_n 0, 1) := by decide +kernel
theorem dX7_init_191 : decode cX7_init 191 = .ok (.getfield 25, 3) := by decide +kernel
theorem dX7_init_194 : decode cX7_init 194 = .ok (.iload_n 1, 1) := by decide +kernel
theorem dX7_init_195 : decode cX7_init 195 = .ok (.iconst (-1), 1) := by decide +kernel
theorem dX7_init_196 : decode cX7_init 196 = .ok (.iastore, 1) := by decide +kernel
theorem dX7_init_197 : decode cX7_init 197 = .ok (.iinc 1 1, 3) := by decide +kernel
theorem dX7_init_200 : decode cX7_init 200 = .ok (.goto (-15), 3) := by decide +kernel
theorem dX7_init_203 : decode cX7_init 203 = .ok (.iconst 0, 1) := by decide +kernel
theorem dX7_init_204 : decode cX7_init 204 = .ok (.istore_n 1, 1) := by decide +kernel
theorem dX7_init_205 : decode cX7_init 205 = .ok (.iload_n 1, 1) := by decide +kernel
theorem dX7_init_206 : decode cX7_init 206 = .ok (.bipush 6, 2) := by decide +kernel
theorem dX7_init_208 : decode cX7_init 208 = .ok (.if_icmp .ge 17, 3) := by decide +kernel
theorem dX7_init_211 : decode cX7_init 211 = .ok (.aload_n 0, 1) := by decide +kernel
theorem dX7_init_212 : decode cX7_init 212 = .ok (.getfield 59, 3) := by decide +kernel
theorem dX7_init_215 : decode cX7_init 215 = .ok (.iload_n 1, 1) := by decide +kernel
theorem dX7_init_216 : decode cX7_init 216 = .ok (.bipush 7, 2) := by decide +kernel
theorem dX7_init_218 : decode cX7_init 218 = .ok (.iastore, 1) := by decide +kernel
theorem dX7_init_219 : decode cX7_init 219 = .ok (.iinc 1 1, 3) := by decide +kernel
theorem dX7_init_222 : decode cX7_init 222 = .ok (.goto (-17), 3) := by decide +kernel
theorem dX7_init_225 : decode cX7_init 225 = .ok (.return_, 1) := by decide +kernel
theorem dX7_thrown_0 : decode cX7_thrown 0 = .ok (.aload_n 0, 1) := by decide +kernel
theorem dX7_thrown_1 : decode cX7_thrown 1 = .ok (.getfield 78, 3) := by decide +kernel
theorem dX7_thrown_4 : decode cX7_thrown 4 = .ok (.ireturn, 1) := by decide +kernel
theorem dX7_isIn_0 : decode cX7_isIn 0 = .ok (.iload_n 0, 1) := by decide +kernel
theorem dX7_isIn_1 : decode cX7_isIn 1 = .ok (.iload_n 1, 1) := by decide +kernel
theorem dX7_isIn_2 : decode cX7_isIn 2 = .ok (.if_icmp .lt 12, 3) := by decide +kernel
theorem dX7_isIn_5 : decode cX7_isIn 5 = .ok (.iload_n 0, 1) := by decide +kernel
theorem dX7_isIn_6 : decode cX7_isIn 6 = .ok (.iload_n 2, 1) := by decide +kernel
theorem dX7_isIn_7 : decode cX7_isIn 7 = .ok (.if_icmp .gt 7, 3) := by decide +kernel
theorem dX7_isIn_10 : decode cX7_isIn 10 = .ok (.iconst 1, 1) := by decide +kernel
theorem dX7_isIn_11 : decode cX7_isIn 11 = .ok (.goto 4, 3) := by decide +kernel
theorem dX7_isIn_14 : decode cX7_isIn 14 = .ok (.iconst 0, 1) := by decide +kernel
theorem dX7_isIn_15 : decode cX7_isIn 15 = .ok (.ireturn, 1) := by decide +kernel
theorem dX7_size_0 : decode cX7_size 0 = .ok (.iload_n 0, 1) := by decide +kernel
theorem dX7_size_1 : decode cX7_size 1 = .ok (.ifCond .ge 8, 3) := by decide +kernel
theorem dX7_size_4 : decode cX7_size 4 = .ok (.iload_n 0, 1) := by decide +kernel
theorem dX7_size_5 : decode cX7_size 5 = .ok (.ineg, 1) := by decide +kernel
theorem dX7_size_6 : decode cX7_size 6 = .ok (.goto 4, 3) := by decide +kernel
theorem dX7_size_9 : decode cX7_size 9 = .ok (.iload_n 0, 1) := by decide +kernel
theorem dX7_size_10 : decode cX7_size 10 = .ok (.ireturn, 1) := by decide +kernel
theorem dX7_distance_0 : decode cX7_distance 0 = .ok (.iload_n 0, 1) := by decide +kernel
theorem dX7_distance_1 : decode cX7_distance 1 = .ok (.iconst 3, 1) := by decide +kernel
theorem dX7_distance_2 : decode cX7_distance 2 = .ok (.idiv, 1) := by decide +kernel
theorem dX7_distance_3 : decode cX7_distance 3 = .ok (.iload_n 1, 1) := by decide +kernel
theorem dX7_distance_4 : decode cX7_distance 4 = .ok (.iconst 3, 1) := by decide +kernel
theorem dX7_distance_5 : decode cX7_distance 5 = .ok (.idiv, 1) := by decide +kernel
theorem dX7_distance_6 : decode cX7_distance 6 = .ok (.isub, 1) := by decide +kernel
theorem dX7_distance_7 : decode cX7_distance 7 = .ok (.invokestatic 82, 3) := by decide +kernel
theorem dX7_distance_10 : decode cX7_distance 10 = .ok (.iload_n 0, 1) := by decide +kernel
theorem dX7_distance_11 : decode cX7_distance 11 = .ok (.iconst 3, 1) := by decide +kernel
theorem dX7_distance_12 : decode cX7_distance 12 = .ok (.irem, 1) := by decide +kernel
theorem dX7_distance_13 : decode cX7_distance 13 = .ok (.iload_n 1, 1) := by decide +kernel
theorem dX7_distance_14 : decode cX7_distance 14 = .ok (.iconst 3, 1) := by decide +kernel
theorem dX7_distance_15 : decode cX7_distance 15 = .ok (.irem, 1) := by decide +kernel
theorem dX7_distance_16 : decode cX7_distance 16 = .ok (.isub, 1) := by decide +kernel
theorem dX7_distance_17 : decode cX7_distance 17 = .ok (.invokestatic 82, 3) := by decide +kernel
theorem dX7_distance_20 : decode cX7_distance 20 = .ok (.iadd, 1) := by decide +kernel
theorem dX7_distance_21 : decode cX7_distance 21 = .ok (.ireturn, 1) := by decide +kernel
theorem dX7_placeOf_0 : decode cX7_placeOf 0 = .ok (.iload_n 0, 1) := by decide +kernel
theorem dX7_placeOf_1 : decode cX7_placeOf 1 = .ok (.ifCond .ne 7, 3) := by decide +kernel
theorem dX7_placeOf_4 : decode cX7_placeOf 4 = .ok (.iconst 3, 1) := by decide +kernel
theorem dX7_placeOf_5 : decode cX7_placeOf 5 = .ok (.goto 22, 3) := by decide +kernel
theorem dX7_placeOf_8 : decode cX7_placeOf 8 = .ok (.iload_n 0, 1) := by decide +kernel
theorem dX7_placeOf_9 : decode cX7_placeOf 9 = .ok (.iconst 1, 1) := by decide +kernel
theorem dX7_placeOf_10 : decode cX7_placeOf 10 = .ok (.if_icmp .ne 7, 3) := by decide +kernel
theorem dX7_placeOf_13 : decode cX7_placeOf 13 = .ok (.iconst 5, 1) := by decide +kernel
theorem dX7_placeOf_14 : decode cX7_placeOf 14 = .ok (.goto 13, 3) := by decide +kernel
theorem dX7_placeOf_17 : decode cX7_placeOf 17 = .ok (.iload_n 0, 1) := by decide +kernel
theorem dX7_placeOf_18 : decode cX7_placeOf 18 = .ok (.iconst 2, 1) := by decide +kernel
theorem dX7_placeOf_19 : decode cX7_placeOf 19 = .ok (.if_icmp .ne 7, 3) := by decide +kernel
theorem dX7_placeOf_22 : decode cX7_placeOf 22 = .ok (.iconst 0, 1) := by decide +kernel
theorem dX7_placeOf_23 : decode cX7_placeOf 23 = .ok (.goto 4, 3) := by decide +kernel
theorem dX7_placeOf_26 : decode cX7_placeOf 26 = .ok (.iconst 2, 1) := by decide +kernel
theorem dX7_placeOf_27 : decode cX7_placeOf 27 = .ok (.ireturn, 1) := by decide +kernel
theorem dX7_isSign_0 : decode cX7_isSign 0 = .ok (.iload_n 1, 1) := by decide +kernel
theorem dX7_isSign_1 : decode cX7_isSign 1 = .ok (.iconst 0, 1) := by decide +kernel
theorem dX7_isSign_2 : decode cX7_isSign 2 = .ok (.aload_n 0, 1) := by decide +kernel
theorem dX7_isSign_3 : decode cX7_isSign 3 = .ok (.getfield 86, 3) := by decide +kernel
theorem dX7_isSign_6 : decode cX7_isSign 6 = .ok (.iconst 1, 1) := by decide +kernel
theorem dX7_isSign_7 : decode cX7_isSign 7 = .ok (.isub, 1) := by decide +kernel
theorem dX7_isSign_8 : decode cX7_isSign 8 = .ok (.invokestatic 89, 3) := by decide +kernel
theorem dX7_isSign_11 : decode cX7_isSign 11 = .ok (.ireturn, 1) := by decide +kernel
theorem dX7_isItem_0 : decode cX7_isItem 0 = .ok (.iload_n 1, 1) := by decide +kernel
theorem dX7_isItem_1 : decode cX7_isItem 1 = .ok (.iconst 0, 1) := by decide +kernel
theorem dX7_isItem_2 : decode cX7_isItem 2 = .ok (.aload_n 0, 1) := by decide +kernel
theorem dX7_isItem_3 : decode cX7_isItem 3 = .ok (.getfield 93, 3) := by decide +kernel
theorem dX7_isItem_6 : decode cX7_isItem 6 = .ok (.iconst 1, 1) := by decide +kernel
theorem dX7_isItem_7 : decode cX7_isItem 7 = .ok (.isub, 1) := by decide +kernel
theorem dX7_isItem_8 : decode cX7_isItem 8 = .ok (.invokestatic 89, 3) := by decide +kernel
theorem dX7_isItem_11 : decode cX7_isItem 11 = .ok (.ireturn, 1) := by decide +kernel
theorem dX7_isLocus_0 : decode cX7_isLocus 0 = .ok (.iload_n 0, 1) := by decide +kernel
theorem dX7_isLocus_1 : decode cX7_isLocus 1 = .ok (.iconst 0, 1) := by decide +kernel
theorem dX7_isLocus_2 : decode cX7_isLocus 2 = .ok (.iconst 3, 1) := by decide +kernel
theorem dX7_isLocus_3 : decode cX7_isLocus 3 = .ok (.invokestatic 89, 3) := by decide +kernel
theorem dX7_isLocus_6 : decode cX7_isLocus 6 = .ok (.ireturn, 1) := by decide +kernel
theorem dX7_areAlike_0 : decode cX7_areAlike 0 = .ok (.aload_n 0, 1) := by decide +kernel
theorem dX7_areAlike_1 : decode cX7_areAlike 1 = .ok (.getfield 7, 3) := by decide +kernel
theorem dX7_areAlike_4 : decode cX7_areAlike 4 = .ok (.bipush 7, 2) := by decide +kernel
theorem dX7_areAlike_6 : decode cX7_areAlike 6 = .ok (.iload_n 1, 1) := by decide +kernel
theorem dX7_areAlike_7 : decode cX7_areAlike 7 = .ok (.imul, 1) := by decide +kernel
theorem dX7_areAlike_8 : decode cX7_areAlike 8 = .ok (.iconst 5, 1) := by decide +kernel
theorem dX7_areAlike_9 : decode cX7_areAlike 9 = .ok (.iadd, 1) := by decide +kernel
theorem dX7_areAlike_10 : decode cX7_areAlike 10 = .ok (.iaload, 1) := by decide +kernel
theorem dX7_areAlike_11 : decode cX7_areAlike 11 = .ok (.iconst 2, 1) := by decide +kernel
theorem dX7_areAlike_12 : decode cX7_areAlike 12 = .ok (.if_icmp .ne 30, 3) := by decide +kernel
theorem dX7_areAlike_15 : decode cX7_areAlike 15 = .ok (.aload_n 0, 1) := by decide +kernel
theorem dX7_areAlike_16 : decode cX7_areAlike 16 = .ok (.getfield 7, 3) := by decide +kernel
theorem dX7_areAlike_19 : decode cX7_areAlike 19 = .ok (.bipush 7, 2) := by decide +kernel
theorem dX7_areAlike_21 : decode cX7_areAlike 21 = .ok (.iload_n 1, 1) := by decide +kernel
theorem dX7_areAlike_22 : decode cX7_areAlike 22 = .ok (.imul, 1) := by decide +kernel
theorem dX7_areAlike_23 : decode cX7_areAlike 23 = .ok (.bipush 6, 2) := by decide +kernel
theorem dX7_areAlike_25 : decode cX7_areAlike 25 = .ok (.iadd, 1) := by decide +kernel
theorem dX7_areAlike_26 : decode cX7_areAlike 26 = .ok (.iaload, 1) := by decide +kernel
theorem dX7_areAlike_27 : decode cX7_areAlike 27 = .ok (.aload_n 0, 1) := by decide +kernel
theorem dX7_areAlike_28 : decode cX7_areAlike 28 = .ok (.getfield 7, 3) := by decide +kernel
theorem dX7_areAlike_31 : decode cX7_areAlike 31 = .ok (.bipush 7, 2) := by decide +kernel
theorem dX7_areAlike_33 : decode cX7_areAlike 33 = .ok (.iload_n 2, 1) := by decide +kernel
theorem dX7_areAlike_34 : decode cX7_areAlike 34 = .ok (.imul, 1) := by decide +kernel
theorem dX7_areAlike_35 : decode cX7_areAlike 35 = .ok (.bipush 6, 2) := by decide +kernel
theorem dX7_areAlike_37 : decode cX7_areAlike 37 = .ok (.iadd, 1) := by decide +kernel
theorem dX7_areAlike_38 : decode cX7_areAlike 38 = .ok (.iaload, 1) := by decide +kernel
theorem dX7_areAlike_39 : decode cX7_areAlike 39 = .ok (.if_icmp .ne 7, 3) := by decide +kernel
theorem dX7_areAlike_42 : decode cX7_areAlike 42 = .ok (.iconst 1, 1) := by decide +kernel
theorem dX7_areAlike_43 : decode cX7_areAlike 43 = .ok (.goto 4, 3) := by decide +kernel
theorem dX7_areAlike_46 : decode cX7_areAlike 46 = .ok (.iconst 0, 1) := by decide +kernel
theorem dX7_areAlike_47 : decode cX7_areAlike 47 = .ok (.istore_n 3, 1) := by decide +kernel
theorem dX7_areAlike_48 : decode cX7_areAlike 48 = .ok (.iconst 0, 1) := by decide +kernel
theorem dX7_areAlike_49 : decode cX7_areAlike 49 = .ok (.istore 4, 2) := by decide +kernel
theorem dX7_areAlike_51 : decode cX7_areAlike 51 = .ok (.iload 4, 2) := by decide +kernel
theorem dX7_areAlike_53 : decode cX7_areAlike 53 = .ok (.iconst 5, 1) := by decide +kernel
theorem dX7_areAlike_54 : decode cX7_areAlike 54 = .ok (.if_icmp .gt 44, 3) := by decide +kernel
theorem dX7_areAlike_57 : decode cX7_areAlike 57 = .ok (.iload_n 3, 1) := by decide +kernel
theorem dX7_areAlike_58 : decode cX7_areAlike 58 = .ok (.aload_n 0, 1) := by decide +kernel
theorem dX7_areAlike_59 : decode cX7_areAlike 59 = .ok (.getfield 7, 3) := by decide +kernel
theorem dX7_areAlike_62 : decode cX7_areAlike 62 = .ok (.bipush 7, 2) := by decide +kernel
theorem dX7_areAlike_64 : decode cX7_areAlike 64 = .ok (.iload_n 1, 1) := by decide +kernel
theorem dX7_areAlike_65 : decode cX7_areAlike 65 = .ok (.imul, 1) := by decide +kernel
theorem dX7_areAlike_66 : decode cX7_areAlike 66 = .ok (.iload 4, 2) := by decide +kernel
theorem dX7_areAlike_68 : decode cX7_areAlike 68 = .ok (.iadd, 1) := by decide +kernel
theorem dX7_areAlike_69 : decode cX7_areAlike 69 = .ok (.iaload, 1) := by decide +kernel
theorem dX7_areAlike_70 : decode cX7_areAlike 70 = .ok (.aload_n 0, 1) := by decide +kernel
theorem dX7_areAlike_71 : decode cX7_areAlike 71 = .ok (.getfield 7, 3) := by decide +kernel
theorem dX7_areAlike_74 : decode cX7_areAlike 74 = .ok (.bipush 7, 2) := by decide +kernel
theorem dX7_areAlike_76 : decode cX7_areAlike 76 = .ok (.iload_n 2, 1) := by decide +kernel
theorem dX7_areAlike_77 : decode cX7_areAlike 77 = .ok (.imul, 1) := by decide +kernel
theorem dX7_areAlike_78 : decode cX7_areAlike 78 = .ok (.iload 4, 2) := by decide +kernel
theorem dX7_areAlike_80 : decode cX7_areAlike 80 = .ok (.iadd, 1) := by decide +kernel
theorem dX7_areAlike_81 : decode cX7_areAlike 81 = .ok (.iaload, 1) := by decide +kernel
theorem dX7_areAlike_82 : decode cX7_areAlike 82 = .ok (.if_icmp .ne 7, 3) := by decide +kernel
theorem dX7_areAlike_85 : decode cX7_areAlike 85 = .ok (.iconst 1, 1) := by decide +kernel
theorem dX7_areAlike_86 : decode cX7_areAlike 86 = .ok (.goto 4, 3) := by decide +kernel
theorem dX7_areAlike_89 : decode cX7_areAlike 89 = .ok (.iconst 0, 1) := by decide +kernel
theorem dX7_areAlike_90 : decode cX7_areAlike 90 = .ok (.iand, 1) := by decide +kernel
theorem dX7_areAlike_91 : decode cX7_areAlike 91 = .ok (.istore_n 3, 1) := by decide +kernel
theorem dX7_areAlike_92 : decode cX7_areAlike 92 = .ok (.iinc 4 1, 3) := by decide +kernel
theorem dX7_areAlike_95 : decode cX7_areAlike 95 = .ok (.goto (-44), 3) := by decide +kernel
theorem dX7_areAlike_98 : decode cX7_areAlike 98 = .ok (.iload_n 3, 1) := by decide +kernel
theorem dX7_areAlike_99 : decode cX7_areAlike 99 = .ok (.ireturn, 1) := by decide +kernel
theorem dX7_sign_0 : decode cX7_sign 0 = .ok (.iload_n 1, 1) := by decide +kernel
theorem dX7_sign_1 : decode cX7_sign 1 = .ok (.iconst 0, 1) := by decide +kernel
theorem dX7_sign_2 : decode cX7_sign 2 = .ok (.bipush 7, 2) := by decide +kernel
theorem dX7_sign_4 : decode cX7_sign 4 = .ok (.invokestatic 89, 3) := by decide +kernel
theorem dX7_sign_7 : decode cX7_sign 7 = .ok (.ifCond .eq 57, 3) := by decide +kernel
theorem dX7_sign_10 : decode cX7_sign 10 = .ok (.iload_n 2, 1) := by decide +kernel
theorem dX7_sign_11 : decode cX7_sign 11 = .ok (.iconst 0, 1) := by decide +kernel
theorem dX7_sign_12 : decode cX7_sign 12 = .ok (.bipush 8, 2) := by decide +kernel
theorem dX7_sign_14 : decode cX7_sign 14 = .ok (.invokestatic 89, 3) := by decide +kernel
theorem dX7_sign_17 : decode cX7_sign 17 = .ok (.ifCond .eq 47, 3) := by decide +kernel
theorem dX7_sign_20 : decode cX7_sign 20 = .ok (.iload_n 3, 1) := by decide +kernel
theorem dX7_sign_21 : decode cX7_sign 21 = .ok (.iconst 0, 1) := by decide +kernel
theorem dX7_sign_22 : decode cX7_sign 22 = .ok (.bipush 8, 2) := by decide +kernel
theorem dX7_sign_24 : decode cX7_sign 24 = .ok (.invokestatic 89, 3) := by decide +kernel
theorem dX7_sign_27 : decode cX7_sign 27 = .ok (.ifCond .eq 37, 3) := by decide +kernel
theorem dX7_sign_30 : decode cX7_sign 30 = .ok (.iload 4, 2) := by decide +kernel
theorem dX7_sign_32 : decode cX7_sign 32 = .ok (.iconst 0, 1) := by decide +kernel
theorem dX7_sign_33 : decode cX7_sign 33 = .ok (.iconst 3, 1) := by decide +kernel
theorem dX7_sign_34 : decode cX7_sign 34 = .ok (.invokestatic 89, 3) := by decide +kernel
theorem dX7_sign_37 : decode cX7_sign 37 = .ok (.ifCond .eq 27, 3) := by decide +kernel
theorem dX7_sign_40 : decode cX7_sign 40 = .ok (.iload 5, 2) := by decide +kernel
theorem dX7_sign_42 : decode cX7_sign 42 = .ok (.iconst 0, 1) := by decide +kernel
theorem dX7_sign_43 : decode cX7_sign 43 = .ok (.iconst 3, 1) := by decide +kernel
theorem dX7_sign_44 : decode cX7_sign 44 = .ok (.invokestatic 89, 3) := by decide +kernel
theorem dX7_sign_47 : decode cX7_sign 47 = .ok (.ifCond .eq 17, 3) := by decide +kernel
theorem dX7_sign_50 : decode cX7_sign 50 = .ok (.iload 6, 2) := by decide +kernel
theorem dX7_sign_52 : decode cX7_sign 52 = .ok (.iconst 0, 1) := by decide +kernel
theorem dX7_sign_53 : decode cX7_sign 53 = .ok (.iconst 2, 1) := by decide +kernel
theorem dX7_sign_54 : decode cX7_sign 54 = .ok (.invokestatic 89, 3) := by decide +kernel
theorem dX7_sign_57 : decode cX7_sign 57 = .ok (.ifCond .eq 7, 3) := by decide +kernel
theorem dX7_sign_60 : decode cX7_sign 60 = .ok (.iconst 1, 1) := by decide +kernel
theorem dX7_sign_61 : decode cX7_sign 61 = .ok (.goto 4, 3) := by decide +kernel
theorem dX7_sign_64 : decode cX7_sign 64 = .ok (.iconst 0, 1) := by decide +kernel
theorem dX7_sign_65 : decode cX7_sign 65 = .ok (.istore 8, 2) := by decide +kernel
theorem dX7_sign_67 : decode cX7_sign 67 = .ok (.iload 8, 2) := by decide +kernel
theorem dX7_sign_69 : decode cX7_sign 69 = .ok (.iload 6, 2) := by decide +kernel
theorem dX7_sign_71 : decode cX7_sign 71 = .ok (.iconst 2, 1) := by decide +kernel
theorem dX7_sign_72 : decode cX7_sign 72 = .ok (.if_icmp .ne 19, 3) := by decide +kernel
theorem dX7_sign_75 : decode cX7_sign 75 = .ok (.iload 7, 2) := by decide +kernel
theorem dX7_sign_77 : decode cX7_sign 77 = .ok (.iconst 0, 1) := by decide +kernel
theorem dX7_sign_78 : decode cX7_sign 78 = .ok (.iconst 3, 1) := by decide +kernel
theorem dX7_sign_79 : decode cX7_sign 79 = .ok (.invokestatic 89, 3) := by decide +kernel
theorem dX7_sign_82 : decode cX7_sign 82 = .ok (.ifCond .ne 9, 3) := by decide +kernel
theorem dX7_sign_85 : decode cX7_sign 85 = .ok (.iload 7, 2) := by decide +kernel
theorem dX7_sign_87 : decode cX7_sign 87 = .ok (.iload_n 1, 1) := by decide +kernel
theorem dX7_sign_88 : decode cX7_sign 88 = .ok (.if_icmp .ne 7, 3) := by decide +kernel
theorem dX7_sign_91 : decode cX7_sign 91 = .ok (.iconst 1, 1) := by decide +kernel
theorem dX7_sign_92 : decode cX7_sign 92 = .ok (.goto 4, 3) := by decide +kernel
theorem dX7_sign_95 : decode cX7_sign 95 = .ok (.iconst 0, 1) := by decide +kernel
theorem dX7_sign_96 : decode cX7_sign 96 = .ok (.iand, 1) := by decide +kernel
theorem dX7_sign_97 : decode cX7_sign 97 = .ok (.istore 8, 2) := by decide +kernel
theorem dX7_sign_99 : decode cX7_sign 99 = .ok (.aload_n 0, 1) := by decide +kernel
theorem dX7_sign_100 : decode cX7_sign 100 = .ok (.iload 8, 2) := by decide +kernel
theorem dX7_sign_102 : decode cX7_sign 102 = .ok (.ifCond .ne 7, 3) := by decide +kernel
theorem dX7_sign_105 : decode cX7_sign 105 = .ok (.iconst 1, 1) := by decide +kernel
theorem dX7_sign_106 : decode cX7_sign 106 = .ok (.goto 17, 3) := by decide +kernel
theorem dX7_sign_109 : decode cX7_sign 109 = .ok (.aload_n 0, 1) := by decide +kernel
theorem dX7_sign_110 : decode cX7_sign 110 = .ok (.getfield 86, 3) := by decide +kernel
theorem dX7_sign_113 : decode cX7_sign 113 = .ok (.bipush 30, 2) := by decide +kernel
theorem dX7_sign_115 : decode cX7_sign 115 = .ok (.if_icmp .ne 7, 3) := by decide +kernel
theorem dX7_sign_118 : decode cX7_sign 118 = .ok (.iconst 2, 1) := by decide +kernel
theorem dX7_sign_119 : decode cX7_sign 119 = .ok (.goto 4, 3) := by decide +kernel
theorem dX7_sign_122 : decode cX7_sign 122 = .ok (.iconst 0, 1) := by decide +kernel
theorem dX7_sign_123 : decode cX7_sign 123 = .ok (.putfield 78, 3) := by decide +kernel
theorem dX7_sign_126 : decode cX7_sign 126 = .ok (.aload_n 0, 1) := by decide +kernel
theorem dX7_sign_127 : decode cX7_sign 127 = .ok (.getfield 78, 3) := by decide +kernel
theorem dX7_sign_130 : decode cX7_sign 130 = .ok (.ifCond .le 5, 3) := by decide +kernel
theorem dX7_sign_133 : decode cX7_sign 133 = .ok (.iconst 0, 1) := by decide +kernel
theorem dX7_sign_134 : decode cX7_sign 134 = .ok (.ireturn, 1) := by decide +kernel
theorem dX7_sign_135 : decode cX7_sign 135 = .ok (.bipush 7, 2) := by decide +kernel
theorem dX7_sign_137 : decode cX7_sign 137 = .ok (.aload_n 0, 1) := by decide +kernel
theorem dX7_sign_138 : decode cX7_sign 138 = .ok (.getfield 86, 3) := by decide +kernel
theorem dX7_sign_141 : decode cX7_sign 141 = .ok (.imul, 1) := by decide +kernel
theorem dX7_sign_142 : decode cX7_sign 142 = .ok (.istore 9, 2) := by decide +kernel
theorem dX7_sign_144 : decode cX7_sign 144 = .ok (.aload_n 0, 1) := by decide +kernel
theorem dX7_sign_145 : decode cX7_sign 145 = .ok (.getfield 7, 3) := by decide +kernel
theorem dX7_sign_148 : decode cX7_sign 148 = .ok (.iload 9, 2) := by decide +kernel
theorem dX7_sign_150 : decode cX7_sign 150 = .ok (.iconst 0, 1) := by decide +kernel
theorem dX7_sign_151 : decode cX7_sign 151 = .ok (.iadd, 1) := by decide +kernel
theorem dX7_sign_152 : decode cX7_sign 152 = .ok (.iload_n 1, 1) := by decide +kernel
theorem dX7_sign_153 : decode cX7_sign 153 = .ok (.iastore, 1) := by decide +kernel
theorem dX7_sign_154 : decode cX7_sign 154 = .ok (.aload_n 0, 1) := by decide +kernel
theorem dX7_sign_155 : decode cX7_sign 155 = .ok (.getfield 7, 3) := by decide +kernel
theorem dX7_sign_158 : decode cX7_sign 158 = .ok (.iload 9, 2) := by decide +kernel
theorem dX7_sign_160 : decode cX7_sign 160 = .ok (.iconst 1, 1) := by decide +kernel
theorem dX7_sign_161 : decode cX7_sign 161 = .ok (.iadd, 1) := by decide +kernel
theorem dX7_sign_162 : decode cX7_sign 162 = .ok (.iload_n 2, 1) := by decide +kernel
theorem dX7_sign_163 : decode cX7_sign 163 = .ok (.iastore, 1) := by decide +kernel
theorem dX7_sign_164 : decode cX7_sign 164 = .ok (.aload_n 0, 1) := by decide +kernel
theorem dX7_sign_165 : decode cX7_sign 165 = .ok (.getfield 7, 3) := by decide +kernel
theorem dX7_sign_168 : decode cX7_sign 168 = .ok (.iload 9, 2) := by decide +kernel
theorem dX7_sign_170 : decode cX7_sign 170 = .ok (.iconst 2, 1) := by decide +kernel
theorem dX7_sign_171 : decode cX7_sign 171 = .ok (.iadd, 1) := by decide +kernel
theorem dX7_sign_172 : decode cX7_sign 172 = .ok (.iload_n 3, 1) := by decide +kernel
theorem dX7_sign_173 : decode cX7_sign 173 = .ok (.iastore, 1) := by decide +kernel
theorem dX7_sign_174 : decode cX7_sign 174 = .ok (.aload_n 0, 1) := by decide +kernel
theorem dX7_sign_175 : decode cX7_sign 175 = .ok (.getfield 7, 3) := by decide +kernel
theorem dX7_sign_178 : decode cX7_sign 178 = .ok (.iload 9, 2) := by decide +kernel
theorem dX7_sign_180 : decode cX7_sign 180 = .ok (.iconst 3, 1) := by decide +kernel
theorem dX7_sign_181 : decode cX7_sign 181 = .ok (.iadd, 1) := by decide +kernel
theorem dX7_sign_182 : decode cX7_sign 182 = .ok (.iload 4, 2) := by decide +kernel
theorem dX7_sign_184 : decode cX7_sign 184 = .ok (.iastore, 1) := by decide +kernel
theorem dX7_sign_185 : decode cX7_sign 185 = .ok (.aload_n 0, 1) := by decide +kernel
theorem dX7_sign_186 : decode cX7_sign 186 = .ok (.getfield 7, 3) := by decide +kernel
theorem dX7_sign_189 : decode cX7_sign 189 = .ok (.iload 9, 2) := by decide +kernel
theorem dX7_sign_191 : decode cX7_sign 191 = .ok (.iconst 4, 1) := by decide +kernel
theorem dX7_sign_192 : decode cX7_sign 192 = .ok (.iadd, 1) := by decide +kernel
theorem dX7_sign_193 : decode cX7_sign 193 = .ok (.iload 5, 2) := by decide +kernel
theorem dX7_sign_195 : decode cX7_sign 195 = .ok (.iastore, 1) := by decide +kernel
theorem dX7_sign_196 : decode cX7_sign 196 = .ok (.aload_n 0, 1) := by decide +kernel
theorem dX7_sign_197 : decode cX7_sign 197 = .ok (.getfield 7, 3) := by decide +kernel
theorem dX7_sign_200 : decode cX7_sign 200 = .ok (.iload 9, 2) := by decide +kernel
theorem dX7_sign_202 : decode cX7_sign 202 = .ok (.iconst 5, 1) := by decide +kernel
theorem dX7_sign_203 : decode cX7_sign 203 = .ok (.iadd, 1) := by decide +kernel
theorem dX7_sign_204 : decode cX7_sign 204 = .ok (.iload 6, 2) := by decide +kernel
theorem dX7_sign_206 : decode cX7_sign 206 = .ok (.iastore, 1) := by decide +kernel
theorem dX7_sign_207 : decode cX7_sign 207 = .ok (.aload_n 0, 1) := by decide +kernel
theorem dX7_sign_208 : decode cX7_sign 208 = .ok (.getfield 7, 3) := by decide +kernel
theorem dX7_sign_211 : decode cX7_sign 211 = .ok (.iload 9, 2) := by decide +kernel
theorem dX7_sign_213 : decode cX7_sign 213 = .ok (.bipush 6, 2) := by decide +kernel
theorem dX7_sign_215 : decode cX7_sign 215 = .ok (.iadd, 1) := by decide +kernel
theorem dX7_sign_216 : decode cX7_sign 216 = .ok (.iload 6, 2) := by decide +kernel
theorem dX7_sign_218 : decode cX7_sign 218 = .ok (.iconst 2, 1) := by decide +kernel
theorem dX7_sign_219 : decode cX7_sign 219 = .ok (.if_icmp .ne 8, 3) := by decide +kernel
theorem dX7_sign_222 : decode cX7_sign 222 = .ok (.iload 7, 2) := by decide +kernel
theorem dX7_sign_224 : decode cX7_sign 224 = .ok (.goto 4, 3) := by decide +kernel
theorem dX7_sign_227 : decode cX7_sign 227 = .ok (.iconst (-1), 1) := by decide +kernel
theorem dX7_sign_228 : decode cX7_sign 228 = .ok (.iastore, 1) := by decide +kernel
theorem dX7_sign_229 : decode cX7_sign 229 = .ok (.iconst 0, 1) := by decide +kernel
theorem dX7_sign_230 : decode cX7_sign 230 = .ok (.istore 10, 2) := by decide +kernel
theorem dX7_sign_232 : decode cX7_sign 232 = .ok (.iload 10, 2) := by decide +kernel
theorem dX7_sign_234 : decode cX7_sign 234 = .ok (.aload_n 0, 1) := by decide +kernel
theorem dX7_sign_235 : decode cX7_sign 235 = .ok (.getfield 86, 3) := by decide +kernel
theorem dX7_sign_238 : decode cX7_sign 238 = .ok (.if_icmp .ge 34, 3) := by decide +kernel
theorem dX7_sign_241 : decode cX7_sign 241 = .ok (.aload_n 0, 1) := by decide +kernel
theorem dX7_sign_242 : decode cX7_sign 242 = .ok (.aload_n 0, 1) := by decide +kernel
theorem dX7_sign_243 : decode cX7_sign 243 = .ok (.iload 10, 2) := by decide +kernel
theorem dX7_sign_245 : decode cX7_sign 245 = .ok (.aload_n 0, 1) := by decide +kernel
theorem dX7_sign_246 : decode cX7_sign 246 = .ok (.getfield 86, 3) := by decide +kernel
theorem dX7_sign_249 : decode cX7_sign 249 = .ok (.invokevirtual 96, 3) := by decide +kernel
theorem dX7_sign_252 : decode cX7_sign 252 = .ok (.ifCond .eq 7, 3) := by decide +kernel
theorem dX7_sign_255 : decode cX7_sign 255 = .ok (.iconst 2, 1) := by decide +kernel
theorem dX7_sign_256 : decode cX7_sign 256 = .ok (.goto 7, 3) := by decide +kernel
theorem dX7_sign_259 : decode cX7_sign 259 = .ok (.aload_n 0, 1) := by decide +kernel
theorem dX7_sign_260 : decode cX7_sign 260 = .ok (.getfield 78, 3) := by decide +kernel
theorem dX7_sign_263 : decode cX7_sign 263 = .ok (.putfield 78, 3) := by decide +kernel
theorem dX7_sign_266 : decode cX7_sign 266 = .ok (.iinc 10 1, 3) := by decide +kernel
theorem dX7_sign_269 : decode cX7_sign 269 = .ok (.goto (-37), 3) := by decide +kernel
theorem dX7_sign_272 : decode cX7_sign 272 = .ok (.aload_n 0, 1) := by decide +kernel
theorem dX7_sign_273 : decode cX7_sign 273 = .ok (.getfield 78, 3) := by decide +kernel
theorem dX7_sign_276 : decode cX7_sign 276 = .ok (.ifCond .le 5, 3) := by decide +kernel
theorem dX7_sign_279 : decode cX7_sign 279 = .ok (.iconst 0, 1) := by decide +kernel
theorem dX7_sign_280 : decode cX7_sign 280 = .ok (.ireturn, 1) := by decide +kernel
theorem dX7_sign_281 : decode cX7_sign 281 = .ok (.aload_n 0, 1) := by decide +kernel
theorem dX7_sign_282 : decode cX7_sign 282 = .ok (.dup, 1) := by decide +kernel
theorem dX7_sign_283 : decode cX7_sign 283 = .ok (.getfield 86, 3) := by decide +kernel
theorem dX7_sign_286 : decode cX7_sign 286 = .ok (.iconst 1, 1) := by decide +kernel
theorem dX7_sign_287 : decode cX7_sign 287 = .ok (.iadd, 1) := by decide +kernel
theorem dX7_sign_288 : decode cX7_sign 288 = .ok (.putfield 86, 3) := by decide +kernel
theorem dX7_sign_291 : decode cX7_sign 291 = .ok (.aload_n 0, 1) := by decide +kernel
theorem dX7_sign_292 : decode cX7_sign 292 = .ok (.getfield 86, 3) := by decide +kernel
theorem dX7_sign_295 : decode cX7_sign 295 = .ok (.iconst 1, 1) := by decide +kernel
theorem dX7_sign_296 : decode cX7_sign 296 = .ok (.isub, 1) := by decide +kernel
theorem dX7_sign_297 : decode cX7_sign 297 = .ok (.ireturn, 1) := by decide +kernel
theorem dX7_unlike_0 : decode cX7_unlike 0 = .ok (.iconst 0, 1) := by decide +kernel
theorem dX7_unlike_1 : decode cX7_unlike 1 = .ok (.istore_n 3, 1) := by decide +kernel
theorem dX7_unlike_2 : decode cX7_unlike 2 = .ok (.iconst 0, 1) := by decide +kernel
theorem dX7_unlike_3 : decode cX7_unlike 3 = .ok (.istore 4, 2) := by decide +kernel
theorem dX7_unlike_5 : decode cX7_unlike 5 = .ok (.iload 4, 2) := by decide +kernel
theorem dX7_unlike_7 : decode cX7_unlike 7 = .ok (.iconst 5, 1) := by decide +kernel
theorem dX7_unlike_8 : decode cX7_unlike 8 = .ok (.if_icmp .gt 44, 3) := by decide +kernel
theorem dX7_unlike_11 : decode cX7_unlike 11 = .ok (.iload_n 3, 1) := by decide +kernel
theorem dX7_unlike_12 : decode cX7_unlike 12 = .ok (.aload_n 0, 1) := by decide +kernel
theorem dX7_unlike_13 : decode cX7_unlike 13 = .ok (.getfield 7, 3) := by decide +kernel
theorem dX7_unlike_16 : decode cX7_unlike 16 = .ok (.bipush 7, 2) := by decide +kernel
theorem dX7_unlike_18 : decode cX7_unlike 18 = .ok (.iload_n 1, 1) := by decide +kernel
theorem dX7_unlike_19 : decode cX7_unlike 19 = .ok (.imul, 1) := by decide +kernel
theorem dX7_unlike_20 : decode cX7_unlike 20 = .ok (.iload 4, 2) := by decide +kernel
theorem dX7_unlike_22 : decode cX7_unlike 22 = .ok (.iadd, 1) := by decide +kernel
theorem dX7_unlike_23 : decode cX7_unlike 23 = .ok (.iaload, 1) := by decide +kernel
theorem dX7_unlike_24 : decode cX7_unlike 24 = .ok (.aload_n 0, 1) := by decide +kernel
theorem dX7_unlike_25 : decode cX7_unlike 25 = .ok (.getfield 7, 3) := by decide +kernel
theorem dX7_unlike_28 : decode cX7_unlike 28 = .ok (.bipush 7, 2) := by decide +kernel
theorem dX7_unlike_30 : decode cX7_unlike 30 = .ok (.iload_n 2, 1) := by decide +kernel
theorem dX7_unlike_31 : decode cX7_unlike 31 = .ok (.imul, 1) := by decide +kernel
theorem dX7_unlike_32 : decode cX7_unlike 32 = .ok (.iload 4, 2) := by decide +kernel
theorem dX7_unlike_34 : decode cX7_unlike 34 = .ok (.iadd, 1) := by decide +kernel
theorem dX7_unlike_35 : decode cX7_unlike 35 = .ok (.iaload, 1) := by decide +kernel
theorem dX7_unlike_36 : decode cX7_unlike 36 = .ok (.if_icmp .eq 7, 3) := by decide +kernel
theorem dX7_unlike_39 : decode cX7_unlike 39 = .ok (.iconst 1, 1) := by decide +kernel
theorem dX7_unlike_40 : decode cX7_unlike 40 = .ok (.goto 4, 3) := by decide +kernel
theorem dX7_unlike_43 : decode cX7_unlike 43 = .ok (.iconst 0, 1) := by decide +kernel
theorem dX7_unlike_44 : decode cX7_unlike 44 = .ok (.iadd, 1) := by decide +kernel
theorem dX7_unlike_45 : decode cX7_unlike 45 = .ok (.istore_n 3, 1) := by decide +kernel
theorem dX7_unlike_46 : decode cX7_unlike 46 = .ok (.iinc 4 1, 3) := by decide +kernel
theorem dX7_unlike_49 : decode cX7_unlike 49 = .ok (.goto (-44), 3) := by decide +kernel
theorem dX7_unlike_52 : decode cX7_unlike 52 = .ok (.iload_n 3, 1) := by decide +kernel
theorem dX7_unlike_53 : decode cX7_unlike 53 = .ok (.ireturn, 1) := by decide +kernel
theorem dX7_nearest_0 : decode cX7_nearest 0 = .ok (.aload_n 0, 1) := by decide +kernel
theorem dX7_nearest_1 : decode cX7_nearest 1 = .ok (.aload_n 0, 1) := by decide +kernel
theorem dX7_nearest_2 : decode cX7_nearest 2 = .ok (.iload_n 1, 1) := by decide +kernel
theorem dX7_nearest_3 : decode cX7_nearest 3 = .ok (.invokevirtual 100, 3) := by decide +kernel
theorem dX7_nearest_6 : decode cX7_nearest 6 = .ok (.ifCond .ne 7, 3) := by decide +kernel
theorem dX7_nearest_9 : decode cX7_nearest 9 = .ok (.iconst 1, 1) := by decide +kernel
theorem dX7_nearest_10 : decode cX7_nearest 10 = .ok (.goto 17, 3) := by decide +kernel
theorem dX7_nearest_13 : decode cX7_nearest 13 = .ok (.iload_n 2, 1) := by decide +kernel
theorem dX7_nearest_14 : decode cX7_nearest 14 = .ok (.iconst 0, 1) := by decide +kernel
theorem dX7_nearest_15 : decode cX7_nearest 15 = .ok (.iconst 1, 1) := by decide +kernel
theorem dX7_nearest_16 : decode cX7_nearest 16 = .ok (.invokestatic 89, 3) := by decide +kernel
theorem dX7_nearest_19 : decode cX7_nearest 19 = .ok (.ifCond .ne 7, 3) := by decide +kernel
theorem dX7_nearest_22 : decode cX7_nearest 22 = .ok (.iconst 2, 1) := by decide +kernel
theorem dX7_nearest_23 : decode cX7_nearest 23 = .ok (.goto 4, 3) := by decide +kernel
theorem dX7_nearest_26 : decode cX7_nearest 26 = .ok (.iconst 0, 1) := by decide +kernel
theorem dX7_nearest_27 : decode cX7_nearest 27 = .ok (.putfield 78, 3) := by decide +kernel
theorem dX7_nearest_30 : decode cX7_nearest 30 = .ok (.aload_n 0, 1) := by decide +kernel
theorem dX7_nearest_31 : decode cX7_nearest 31 = .ok (.getfield 78, 3) := by decide +kernel
theorem dX7_nearest_34 : decode cX7_nearest 34 = .ok (.ifCond .le 5, 3) := by decide +kernel
theorem dX7_nearest_37 : decode cX7_nearest 37 = .ok (.iconst 0, 1) := by decide +kernel
theorem dX7_nearest_38 : decode cX7_nearest 38 = .ok (.ireturn, 1) := by decide +kernel
theorem dX7_nearest_39 : decode cX7_nearest 39 = .ok (.iconst (-1), 1) := by decide +kernel
theorem dX7_nearest_40 : decode cX7_nearest 40 = .ok (.istore_n 3, 1) := by decide +kernel
theorem dX7_nearest_41 : decode cX7_nearest 41 = .ok (.iconst 0, 1) := by decide +kernel
theorem dX7_nearest_42 : decode cX7_nearest 42 = .ok (.istore 4, 2) := by decide +kernel
theorem dX7_nearest_44 : decode cX7_nearest 44 = .ok (.iload 4, 2) := by decide +kernel
theorem dX7_nearest_46 : decode cX7_nearest 46 = .ok (.aload_n 0, 1) := by decide +kernel
theorem dX7_nearest_47 : decode cX7_nearest 47 = .ok (.getfield 86, 3) := by decide +kernel
theorem dX7_nearest_50 : decode cX7_nearest 50 = .ok (.if_icmp .ge 43, 3) := by decide +kernel
theorem dX7_nearest_53 : decode cX7_nearest 53 = .ok (.iload 4, 2) := by decide +kernel
theorem dX7_nearest_55 : decode cX7_nearest 55 = .ok (.iload_n 1, 1) := by decide +kernel
theorem dX7_nearest_56 : decode cX7_nearest 56 = .ok (.if_icmp .eq 29, 3) := by decide +kernel
theorem dX7_nearest_59 : decode cX7_nearest 59 = .ok (.iload_n 3, 1) := by decide +kernel
theorem dX7_nearest_60 : decode cX7_nearest 60 = .ok (.iconst (-1), 1) := by decide +kernel
theorem dX7_nearest_61 : decode cX7_nearest 61 = .ok (.if_icmp .eq 19, 3) := by decide +kernel
theorem dX7_nearest_64 : decode cX7_nearest 64 = .ok (.aload_n 0, 1) := by decide +kernel
theorem dX7_nearest_65 : decode cX7_nearest 65 = .ok (.iload_n 1, 1) := by decide +kernel
theorem dX7_nearest_66 : decode cX7_nearest 66 = .ok (.iload 4, 2) := by decide +kernel
theorem dX7_nearest_68 : decode cX7_nearest 68 = .ok (.invokevirtual 104, 3) := by decide +kernel
theorem dX7_nearest_71 : decode cX7_nearest 71 = .ok (.aload_n 0, 1) := by decide +kernel
theorem dX7_nearest_72 : decode cX7_nearest 72 = .ok (.iload_n 1, 1) := by decide +kernel
theorem dX7_nearest_73 : decode cX7_nearest 73 = .ok (.iload_n 3, 1) := by decide +kernel
theorem dX7_nearest_74 : decode cX7_nearest 74 = .ok (.invokevirtual 104, 3) := by decide +kernel
theorem dX7_nearest_77 : decode cX7_nearest 77 = .ok (.if_icmp .ge 8, 3) := by decide +kernel
theorem dX7_nearest_80 : decode cX7_nearest 80 = .ok (.iload 4, 2) := by decide +kernel
theorem dX7_nearest_82 : decode cX7_nearest 82 = .ok (.goto 4, 3) := by decide +kernel
theorem dX7_nearest_85 : decode cX7_nearest 85 = .ok (.iload_n 3, 1) := by decide +kernel
theorem dX7_nearest_86 : decode cX7_nearest 86 = .ok (.istore_n 3, 1) := by decide +kernel
theorem dX7_nearest_87 : decode cX7_nearest 87 = .ok (.iinc 4 1, 3) := by decide +kernel
theorem dX7_nearest_90 : decode cX7_nearest 90 = .ok (.goto (-46), 3) := by decide +kernel
theorem dX7_nearest_93 : decode cX7_nearest 93 = .ok (.iload_n 3, 1) := by decide +kernel
theorem dX7_nearest_94 : decode cX7_nearest 94 = .ok (.iconst (-1), 1) := by decide +kernel
theorem dX7_nearest_95 : decode cX7_nearest 95 = .ok (.if_icmp .eq 7, 3) := by decide +kernel
theorem dX7_nearest_98 : decode cX7_nearest 98 = .ok (.iload_n 2, 1) := by decide +kernel
theorem dX7_nearest_99 : decode cX7_nearest 99 = .ok (.ifCond .ne 7, 3) := by decide +kernel
theorem dX7_nearest_102 : decode cX7_nearest 102 = .ok (.iload_n 3, 1) := by decide +kernel
theorem dX7_nearest_103 : decode cX7_nearest 103 = .ok (.goto 9, 3) := by decide +kernel
theorem dX7_nearest_106 : decode cX7_nearest 106 = .ok (.aload_n 0, 1) := by decide +kernel
theorem dX7_nearest_107 : decode cX7_nearest 107 = .ok (.iload_n 1, 1) := by decide +kernel
theorem dX7_nearest_108 : decode cX7_nearest 108 = .ok (.iload_n 3, 1) := by decide +kernel
theorem dX7_nearest_109 : decode cX7_nearest 109 = .ok (.invokevirtual 104, 3) := by decide +kernel
theorem dX7_nearest_112 : decode cX7_nearest 112 = .ok (.ireturn, 1) := by decide +kernel
theorem dX7_way_0 : decode cX7_way 0 = .ok (.iload_n 1, 1) := by decide +kernel
theorem dX7_way_1 : decode cX7_way 1 = .ok (.iload_n 0, 1) := by decide +kernel
theorem dX7_way_2 : decode cX7_way 2 = .ok (.if_icmp .ge 7, 3) := by decide +kernel
theorem dX7_way_5 : decode cX7_way 5 = .ok (.iconst 0, 1) := by decide +kernel
theorem dX7_way_6 : decode cX7_way 6 = .ok (.goto 13, 3) := by decide +kernel
theorem dX7_way_9 : decode cX7_way 9 = .ok (.iload_n 1, 1) := by decide +kernel
theorem dX7_way_10 : decode cX7_way 10 = .ok (.iload_n 0, 1) := by decide +kernel
theorem dX7_way_11 : decode cX7_way 11 = .ok (.if_icmp .ne 7, 3) := by decide +kernel
theorem dX7_way_14 : decode cX7_way 14 = .ok (.iconst 1, 1) := by decide +kernel
theorem dX7_way_15 : decode cX7_way 15 = .ok (.goto 4, 3) := by decide +kernel
theorem dX7_way_18 : decode cX7_way 18 = .ok (.iconst 2, 1) := by decide +kernel
theorem dX7_way_19 : decode cX7_way 19 = .ok (.ireturn, 1) := by decide +kernel
theorem dX7_writes_0 : decode cX7_writes 0 = .ok (.bipush 7, 2) := by decide +kernel
theorem dX7_writes_2 : decode cX7_writes 2 = .ok (.iload_n 1, 1) := by decide +kernel
theorem dX7_writes_3 : decode cX7_writes 3 = .ok (.imul, 1) := by decide +kernel
theorem dX7_writes_4 : decode cX7_writes 4 = .ok (.istore_n 3, 1) := by decide +kernel
theorem dX7_writes_5 : decode cX7_writes 5 = .ok (.aload_n 0, 1) := by decide +kernel
theorem dX7_writes_6 : decode cX7_writes 6 = .ok (.getfield 7, 3) := by decide +kernel
theorem dX7_writes_9 : decode cX7_writes 9 = .ok (.iload_n 3, 1) := by decide +kernel
theorem dX7_writes_10 : decode cX7_writes 10 = .ok (.iconst 1, 1) := by decide +kernel
theorem dX7_writes_11 : decode cX7_writes 11 = .ok (.iadd, 1) := by decide +kernel
theorem dX7_writes_12 : decode cX7_writes 12 = .ok (.iaload, 1) := by decide +kernel
theorem dX7_writes_13 : decode cX7_writes 13 = .ok (.istore 4, 2) := by decide +kernel
theorem dX7_writes_15 : decode cX7_writes 15 = .ok (.aload_n 0, 1) := by decide +kernel
theorem dX7_writes_16 : decode cX7_writes 16 = .ok (.getfield 7, 3) := by decide +kernel
theorem dX7_writes_19 : decode cX7_writes 19 = .ok (.iload_n 3, 1) := by decide +kernel
theorem dX7_writes_20 : decode cX7_writes 20 = .ok (.iconst 2, 1) := by decide +kernel
theorem dX7_writes_21 : decode cX7_writes 21 = .ok (.iadd, 1) := by decide +kernel
theorem dX7_writes_22 : decode cX7_writes 22 = .ok (.iaload, 1) := by decide +kernel
theorem dX7_writes_23 : decode cX7_writes 23 = .ok (.istore 5, 2) := by decide +kernel
theorem dX7_writes_25 : decode cX7_writes 25 = .ok (.iload_n 2, 1) := by decide +kernel
theorem dX7_writes_26 : decode cX7_writes 26 = .ok (.ifCond .ne 24, 3) := by decide +kernel
theorem dX7_writes_29 : decode cX7_writes 29 = .ok (.bipush 81, 2) := by decide +kernel
theorem dX7_writes_31 : decode cX7_writes 31 = .ok (.aload_n 0, 1) := by decide +kernel
theorem dX7_writes_32 : decode cX7_writes 32 = .ok (.getfield 7, 3) := by decide +kernel
theorem dX7_writes_35 : decode cX7_writes 35 = .ok (.iload_n 3, 1) := by decide +kernel
theorem dX7_writes_36 : decode cX7_writes 36 = .ok (.iconst 0, 1) := by decide +kernel
theorem dX7_writes_37 : decode cX7_writes 37 = .ok (.iadd, 1) := by decide +kernel
theorem dX7_writes_38 : decode cX7_writes 38 = .ok (.iaload, 1) := by decide +kernel
theorem dX7_writes_39 : decode cX7_writes 39 = .ok (.imul, 1) := by decide +kernel
theorem dX7_writes_40 : decode cX7_writes 40 = .ok (.bipush 9, 2) := by decide +kernel
theorem dX7_writes_42 : decode cX7_writes 42 = .ok (.iload 4, 2) := by decide +kernel
theorem dX7_writes_44 : decode cX7_writes 44 = .ok (.imul, 1) := by decide +kernel
theorem dX7_writes_45 : decode cX7_writes 45 = .ok (.iadd, 1) := by decide +kernel
theorem dX7_writes_46 : decode cX7_writes 46 = .ok (.iload 5, 2) := by decide +kernel
theorem dX7_writes_48 : decode cX7_writes 48 = .ok (.iadd, 1) := by decide +kernel
theorem dX7_writes_49 : decode cX7_writes 49 = .ok (.ireturn, 1) := by decide +kernel
theorem dX7_writes_50 : decode cX7_writes 50 = .ok (.iload_n 2, 1) := by decide +kernel
theorem dX7_writes_51 : decode cX7_writes 51 = .ok (.iconst 1, 1) := by decide +kernel
theorem dX7_writes_52 : decode cX7_writes 52 = .ok (.if_icmp .ne 47, 3) := by decide +kernel
theorem dX7_writes_55 : decode cX7_writes 55 = .ok (.bipush 48, 2) := by decide +kernel
theorem dX7_writes_57 : decode cX7_writes 57 = .ok (.aload_n 0, 1) := by decide +kernel
theorem dX7_writes_58 : decode cX7_writes 58 = .ok (.getfield 7, 3) := by decide +kernel
theorem dX7_writes_61 : decode cX7_writes 61 = .ok (.iload_n 3, 1) := by decide +kernel
theorem dX7_writes_62 : decode cX7_writes 62 = .ok (.iconst 0, 1) := by decide +kernel
theorem dX7_writes_63 : decode cX7_writes 63 = .ok (.iadd, 1) := by decide +kernel
theorem dX7_writes_64 : decode cX7_writes 64 = .ok (.iaload, 1) := by decide +kernel
theorem dX7_writes_65 : decode cX7_writes 65 = .ok (.imul, 1) := by decide +kernel
theorem dX7_writes_66 : decode cX7_writes 66 = .ok (.bipush 12, 2) := by decide +kernel
theorem dX7_writes_68 : decode cX7_writes 68 = .ok (.aload_n 0, 1) := by decide +kernel
theorem dX7_writes_69 : decode cX7_writes 69 = .ok (.getfield 7, 3) := by decide +kernel
theorem dX7_writes_72 : decode cX7_writes 72 = .ok (.iload_n 3, 1) := by decide +kernel
theorem dX7_writes_73 : decode cX7_writes 73 = .ok (.iconst 3, 1) := by decide +kernel
theorem dX7_writes_74 : decode cX7_writes 74 = .ok (.iadd, 1) := by decide +kernel
theorem dX7_writes_75 : decode cX7_writes 75 = .ok (.iaload, 1) := by decide +kernel
theorem dX7_writes_76 : decode cX7_writes 76 = .ok (.imul, 1) := by decide +kernel
theorem dX7_writes_77 : decode cX7_writes 77 = .ok (.iadd, 1) := by decide +kernel
theorem dX7_writes_78 : decode cX7_writes 78 = .ok (.iconst 3, 1) := by decide +kernel
theorem dX7_writes_79 : decode cX7_writes 79 = .ok (.aload_n 0, 1) := by decide +kernel
theorem dX7_writes_80 : decode cX7_writes 80 = .ok (.getfield 7, 3) := by decide +kernel
theorem dX7_writes_83 : decode cX7_writes 83 = .ok (.iload_n 3, 1) := by decide +kernel
theorem dX7_writes_84 : decode cX7_writes 84 = .ok (.iconst 4, 1) := by decide +kernel
theorem dX7_writes_85 : decode cX7_writes 85 = .ok (.iadd, 1) := by decide +kernel
theorem dX7_writes_86 : decode cX7_writes 86 = .ok (.iaload, 1) := by decide +kernel
theorem dX7_writes_87 : decode cX7_writes 87 = .ok (.imul, 1) := by decide +kernel
theorem dX7_writes_88 : decode cX7_writes 88 = .ok (.iadd, 1) := by decide +kernel
theorem dX7_writes_89 : decode cX7_writes 89 = .ok (.aload_n 0, 1) := by decide +kernel
theorem dX7_writes_90 : decode cX7_writes 90 = .ok (.getfield 7, 3) := by decide +kernel
theorem dX7_writes_93 : decode cX7_writes 93 = .ok (.iload_n 3, 1) := by decide +kernel
theorem dX7_writes_94 : decode cX7_writes 94 = .ok (.iconst 5, 1) := by decide +kernel
theorem dX7_writes_95 : decode cX7_writes 95 = .ok (.iadd, 1) := by decide +kernel
theorem dX7_writes_96 : decode cX7_writes 96 = .ok (.iaload, 1) := by decide +kernel
theorem dX7_writes_97 : decode cX7_writes 97 = .ok (.iadd, 1) := by decide +kernel
theorem dX7_writes_98 : decode cX7_writes 98 = .ok (.ireturn, 1) := by decide +kernel
theorem dX7_writes_99 : decode cX7_writes 99 = .ok (.aload_n 0, 1) := by decide +kernel
theorem dX7_writes_100 : decode cX7_writes 100 = .ok (.getfield 7, 3) := by decide +kernel
theorem dX7_writes_103 : decode cX7_writes 103 = .ok (.iload_n 3, 1) := by decide +kernel
theorem dX7_writes_104 : decode cX7_writes 104 = .ok (.iconst 0, 1) := by decide +kernel
theorem dX7_writes_105 : decode cX7_writes 105 = .ok (.iadd, 1) := by decide +kernel
theorem dX7_writes_106 : decode cX7_writes 106 = .ok (.iaload, 1) := by decide +kernel
theorem dX7_writes_107 : decode cX7_writes 107 = .ok (.iconst 4, 1) := by decide +kernel
theorem dX7_writes_108 : decode cX7_writes 108 = .ok (.if_icmp .ge 8, 3) := by decide +kernel
theorem dX7_writes_111 : decode cX7_writes 111 = .ok (.bipush 9, 2) := by decide +kernel
theorem dX7_writes_113 : decode cX7_writes 113 = .ok (.goto 4, 3) := by decide +kernel
theorem dX7_writes_116 : decode cX7_writes 116 = .ok (.iconst 0, 1) := by decide +kernel
theorem dX7_writes_117 : decode cX7_writes 117 = .ok (.iconst 3, 1) := by decide +kernel
theorem dX7_writes_118 : decode cX7_writes 118 = .ok (.iload 4, 2) := by decide +kernel
theorem dX7_writes_120 : decode cX7_writes 120 = .ok (.iconst 3, 1) := by decide +kernel
theorem dX7_writes_121 : decode cX7_writes 121 = .ok (.idiv, 1) := by decide +kernel
theorem dX7_writes_122 : decode cX7_writes 122 = .ok (.iload 5, 2) := by decide +kernel
theorem dX7_writes_124 : decode cX7_writes 124 = .ok (.iconst 3, 1) := by decide +kernel
theorem dX7_writes_125 : decode cX7_writes 125 = .ok (.idiv, 1) := by decide +kernel
theorem dX7_writes_126 : decode cX7_writes 126 = .ok (.invokestatic 108, 3) := by decide +kernel
theorem dX7_writes_129 : decode cX7_writes 129 = .ok (.imul, 1) := by decide +kernel
theorem dX7_writes_130 : decode cX7_writes 130 = .ok (.iadd, 1) := by decide +kernel
theorem dX7_writes_131 : decode cX7_writes 131 = .ok (.iload 4, 2) := by decide +kernel
theorem dX7_writes_133 : decode cX7_writes 133 = .ok (.iconst 3, 1) := by decide +kernel
theorem dX7_writes_134 : decode cX7_writes 134 = .ok (.irem, 1) := by decide +kernel
theorem dX7_writes_135 : decode cX7_writes 135 = .ok (.iload 5, 2) := by decide +kernel
theorem dX7_writes_137 : decode cX7_writes 137 = .ok (.iconst 3, 1) := by decide +kernel
theorem dX7_writes_138 : decode cX7_writes 138 = .ok (.irem, 1) := by decide +kernel
theorem dX7_writes_139 : decode cX7_writes 139 = .ok (.invokestatic 108, 3) := by decide +kernel
theorem dX7_writes_142 : decode cX7_writes 142 = .ok (.iadd, 1) := by decide +kernel
theorem dX7_writes_143 : decode cX7_writes 143 = .ok (.ireturn, 1) := by decide +kernel
theorem dX7_written_0 : decode cX7_written 0 = .ok (.aload_n 0, 1) := by decide +kernel
theorem dX7_written_1 : decode cX7_written 1 = .ok (.aload_n 0, 1) := by decide +kernel
theorem dX7_written_2 : decode cX7_written 2 = .ok (.iload_n 1, 1) := by decide +kernel
theorem dX7_written_3 : decode cX7_written 3 = .ok (.invokevirtual 100, 3) := by decide +kernel
theorem dX7_written_6 : decode cX7_written 6 = .ok (.ifCond .ne 7, 3) := by decide +kernel
theorem dX7_written_9 : decode cX7_written 9 = .ok (.iconst 1, 1) := by decide +kernel
theorem dX7_written_10 : decode cX7_written 10 = .ok (.goto 17, 3) := by decide +kernel
theorem dX7_written_13 : decode cX7_written 13 = .ok (.iload_n 2, 1) := by decide +kernel
theorem dX7_written_14 : decode cX7_written 14 = .ok (.iconst 0, 1) := by decide +kernel
theorem dX7_written_15 : decode cX7_written 15 = .ok (.iconst 2, 1) := by decide +kernel
theorem dX7_written_16 : decode cX7_written 16 = .ok (.invokestatic 89, 3) := by decide +kernel
theorem dX7_written_19 : decode cX7_written 19 = .ok (.ifCond .ne 7, 3) := by decide +kernel
theorem dX7_written_22 : decode cX7_written 22 = .ok (.iconst 2, 1) := by decide +kernel
theorem dX7_written_23 : decode cX7_written 23 = .ok (.goto 4, 3) := by decide +kernel
theorem dX7_written_26 : decode cX7_written 26 = .ok (.iconst 0, 1) := by decide +kernel
theorem dX7_written_27 : decode cX7_written 27 = .ok (.putfield 78, 3) := by decide +kernel
theorem dX7_written_30 : decode cX7_written 30 = .ok (.aload_n 0, 1) := by decide +kernel
theorem dX7_written_31 : decode cX7_written 31 = .ok (.getfield 78, 3) := by decide +kernel
theorem dX7_written_34 : decode cX7_written 34 = .ok (.ifCond .le 7, 3) := by decide +kernel
theorem dX7_written_37 : decode cX7_written 37 = .ok (.iconst 0, 1) := by decide +kernel
theorem dX7_written_38 : decode cX7_written 38 = .ok (.goto 9, 3) := by decide +kernel
theorem dX7_written_41 : decode cX7_written 41 = .ok (.aload_n 0, 1) := by decide +kernel
theorem dX7_written_42 : decode cX7_written 42 = .ok (.iload_n 1, 1) := by decide +kernel
theorem dX7_written_43 : decode cX7_written 43 = .ok (.iload_n 2, 1) := by decide +kernel
theorem dX7_written_44 : decode cX7_written 44 = .ok (.invokevirtual 111, 3) := by decide +kernel
theorem dX7_written_47 : decode cX7_written 47 = .ok (.ireturn, 1) := by decide +kernel
theorem dX7_loses_0 : decode cX7_loses 0 = .ok (.aload_n 0, 1) := by decide +kernel
theorem dX7_loses_1 : decode cX7_loses 1 = .ok (.iload_n 1, 1) := by decide +kernel
theorem dX7_loses_2 : decode cX7_loses 2 = .ok (.iconst 0, 1) := by decide +kernel
theorem dX7_loses_3 : decode cX7_loses 3 = .ok (.iconst 2, 1) := by decide +kernel
theorem dX7_loses_4 : decode cX7_loses 4 = .ok (.invokestatic 89, 3) := by decide +kernel
theorem dX7_loses_7 : decode cX7_loses 7 = .ok (.ifCond .eq 16, 3) := by decide +kernel
theorem dX7_loses_10 : decode cX7_loses 10 = .ok (.iload_n 2, 1) := by decide +kernel
theorem dX7_loses_11 : decode cX7_loses 11 = .ok (.iconst 0, 1) := by decide +kernel
theorem dX7_loses_12 : decode cX7_loses 12 = .ok (.iconst 2, 1) := by decide +kernel
theorem dX7_loses_13 : decode cX7_loses 13 = .ok (.invokestatic 89, 3) := by decide +kernel
theorem dX7_loses_16 : decode cX7_loses 16 = .ok (.ifCond .eq 7, 3) := by decide +kernel
theorem dX7_loses_19 : decode cX7_loses 19 = .ok (.iconst 0, 1) := by decide +kernel
theorem dX7_loses_20 : decode cX7_loses 20 = .ok (.goto 4, 3) := by decide +kernel
theorem dX7_loses_23 : decode cX7_loses 23 = .ok (.iconst 1, 1) := by decide +kernel
theorem dX7_loses_24 : decode cX7_loses 24 = .ok (.putfield 78, 3) := by decide +kernel
theorem dX7_loses_27 : decode cX7_loses 27 = .ok (.iconst 0, 1) := by decide +kernel
theorem dX7_loses_28 : decode cX7_loses 28 = .ok (.istore_n 3, 1) := by decide +kernel
theorem dX7_loses_29 : decode cX7_loses 29 = .ok (.iconst 0, 1) := by decide +kernel
theorem dX7_loses_30 : decode cX7_loses 30 = .ok (.istore 4, 2) := by decide +kernel
theorem dX7_loses_32 : decode cX7_loses 32 = .ok (.iload 4, 2) := by decide +kernel
theorem dX7_loses_34 : decode cX7_loses 34 = .ok (.aload_n 0, 1) := by decide +kernel
theorem dX7_loses_35 : decode cX7_loses 35 = .ok (.getfield 86, 3) := by decide +kernel
theorem dX7_loses_38 : decode cX7_loses 38 = .ok (.if_icmp .ge 79, 3) := by decide +kernel
theorem dX7_loses_41 : decode cX7_loses 41 = .ok (.aload_n 0, 1) := by decide +kernel
theorem dX7_loses_42 : decode cX7_loses 42 = .ok (.getfield 78, 3) := by decide +kernel
theorem dX7_loses_45 : decode cX7_loses 45 = .ok (.ifCond .ne 72, 3) := by decide +kernel
theorem dX7_loses_48 : decode cX7_loses 48 = .ok (.iload 4, 2) := by decide +kernel
theorem dX7_loses_50 : decode cX7_loses 50 = .ok (.iconst 1, 1) := by decide +kernel
theorem dX7_loses_51 : decode cX7_loses 51 = .ok (.iadd, 1) := by decide +kernel
theorem dX7_loses_52 : decode cX7_loses 52 = .ok (.istore 5, 2) := by decide +kernel
theorem dX7_loses_54 : decode cX7_loses 54 = .ok (.iload 5, 2) := by decide +kernel
theorem dX7_loses_56 : decode cX7_loses 56 = .ok (.aload_n 0, 1) := by decide +kernel
theorem dX7_loses_57 : decode cX7_loses 57 = .ok (.getfield 86, 3) := by decide +kernel
theorem dX7_loses_60 : decode cX7_loses 60 = .ok (.if_icmp .ge 51, 3) := by decide +kernel
theorem dX7_loses_63 : decode cX7_loses 63 = .ok (.iload_n 3, 1) := by decide +kernel
theorem dX7_loses_64 : decode cX7_loses 64 = .ok (.aload_n 0, 1) := by decide +kernel
theorem dX7_loses_65 : decode cX7_loses 65 = .ok (.iload 4, 2) := by decide +kernel
theorem dX7_loses_67 : decode cX7_loses 67 = .ok (.iload_n 1, 1) := by decide +kernel
theorem dX7_loses_68 : decode cX7_loses 68 = .ok (.invokevirtual 111, 3) := by decide +kernel
theorem dX7_loses_71 : decode cX7_loses 71 = .ok (.aload_n 0, 1) := by decide +kernel
theorem dX7_loses_72 : decode cX7_loses 72 = .ok (.iload 5, 2) := by decide +kernel
theorem dX7_loses_74 : decode cX7_loses 74 = .ok (.iload_n 1, 1) := by decide +kernel
theorem dX7_loses_75 : decode cX7_loses 75 = .ok (.invokevirtual 111, 3) := by decide +kernel
theorem dX7_loses_78 : decode cX7_loses 78 = .ok (.if_icmp .eq 24, 3) := by decide +kernel
theorem dX7_loses_81 : decode cX7_loses 81 = .ok (.aload_n 0, 1) := by decide +kernel
theorem dX7_loses_82 : decode cX7_loses 82 = .ok (.iload 4, 2) := by decide +kernel
theorem dX7_loses_84 : decode cX7_loses 84 = .ok (.iload_n 2, 1) := by decide +kernel
theorem dX7_loses_85 : decode cX7_loses 85 = .ok (.invokevirtual 111, 3) := by decide +kernel
theorem dX7_loses_88 : decode cX7_loses 88 = .ok (.aload_n 0, 1) := by decide +kernel
theorem dX7_loses_89 : decode cX7_loses 89 = .ok (.iload 5, 2) := by decide +kernel
theorem dX7_loses_91 : decode cX7_loses 91 = .ok (.iload_n 2, 1) := by decide +kernel
theorem dX7_loses_92 : decode cX7_loses 92 = .ok (.invokevirtual 111, 3) := by decide +kernel
theorem dX7_loses_95 : decode cX7_loses 95 = .ok (.if_icmp .ne 7, 3) := by decide +kernel
theorem dX7_loses_98 : decode cX7_loses 98 = .ok (.iconst 1, 1) := by decide +kernel
theorem dX7_loses_99 : decode cX7_loses 99 = .ok (.goto 4, 3) := by decide +kernel
theorem dX7_loses_102 : decode cX7_loses 102 = .ok (.iconst 0, 1) := by decide +kernel
theorem dX7_loses_103 : decode cX7_loses 103 = .ok (.iadd, 1) := by decide +kernel
theorem dX7_loses_104 : decode cX7_loses 104 = .ok (.istore_n 3, 1) := by decide +kernel
theorem dX7_loses_105 : decode cX7_loses 105 = .ok (.iinc 5 1, 3) := by decide +kernel
theorem dX7_loses_108 : decode cX7_loses 108 = .ok (.goto (-54), 3) := by decide +kernel
theorem dX7_loses_111 : decode cX7_loses 111 = .ok (.iinc 4 1, 3) := by decide +kernel
theorem dX7_loses_114 : decode cX7_loses 114 = .ok (.goto (-82), 3) := by decide +kernel
theorem dX7_loses_117 : decode cX7_loses 117 = .ok (.iload_n 3, 1) := by decide +kernel
theorem dX7_loses_118 : decode cX7_loses 118 = .ok (.ireturn, 1) := by decide +kernel
theorem dX7_isFor_0 : decode cX7_isFor 0 = .ok (.iconst 0, 1) := by decide +kernel
theorem dX7_isFor_1 : decode cX7_isFor 1 = .ok (.istore_n 2, 1) := by decide +kernel
theorem dX7_isFor_2 : decode cX7_isFor 2 = .ok (.iconst 0, 1) := by decide +kernel
theorem dX7_isFor_3 : decode cX7_isFor 3 = .ok (.istore_n 3, 1) := by decide +kernel
theorem dX7_isFor_4 : decode cX7_isFor 4 = .ok (.iload_n 3, 1) := by decide +kernel
theorem dX7_isFor_5 : decode cX7_isFor 5 = .ok (.iconst 4, 1) := by decide +kernel
theorem dX7_isFor_6 : decode cX7_isFor 6 = .ok (.if_icmp .ge 27, 3) := by decide +kernel
theorem dX7_isFor_9 : decode cX7_isFor 9 = .ok (.iload_n 2, 1) := by decide +kernel
theorem dX7_isFor_10 : decode cX7_isFor 10 = .ok (.aload_n 0, 1) := by decide +kernel
theorem dX7_isFor_11 : decode cX7_isFor 11 = .ok (.getfield 25, 3) := by decide +kernel
theorem dX7_isFor_14 : decode cX7_isFor 14 = .ok (.iload_n 3, 1) := by decide +kernel
theorem dX7_isFor_15 : decode cX7_isFor 15 = .ok (.iaload, 1) := by decide +kernel
theorem dX7_isFor_16 : decode cX7_isFor 16 = .ok (.iload_n 1, 1) := by decide +kernel
theorem dX7_isFor_17 : decode cX7_isFor 17 = .ok (.if_icmp .ne 7, 3) := by decide +kernel
theorem dX7_isFor_20 : decode cX7_isFor 20 = .ok (.iconst 1, 1) := by decide +kernel
theorem dX7_isFor_21 : decode cX7_isFor 21 = .ok (.goto 4, 3) := by decide +kernel
theorem dX7_isFor_24 : decode cX7_isFor 24 = .ok (.iconst 0, 1) := by decide +kernel
theorem dX7_isFor_25 : decode cX7_isFor 25 = .ok (.ior, 1) := by decide +kernel
theorem dX7_isFor_26 : decode cX7_isFor 26 = .ok (.istore_n 2, 1) := by decide +kernel
theorem dX7_isFor_27 : decode cX7_isFor 27 = .ok (.iinc 3 1, 3) := by decide +kernel
theorem dX7_isFor_30 : decode cX7_isFor 30 = .ok (.goto (-26), 3) := by decide +kernel
theorem dX7_isFor_33 : decode cX7_isFor 33 = .ok (.iload_n 2, 1) := by decide +kernel
theorem dX7_isFor_34 : decode cX7_isFor 34 = .ok (.ireturn, 1) := by decide +kernel
theorem dX7_itemThrown_0 : decode cX7_itemThrown 0 = .ok (.iload_n 1, 1) := by decide +kernel
theorem dX7_itemThrown_1 : decode cX7_itemThrown 1 = .ok (.tableswitch 221 0 5 #[39, 53, 102, 102, 129, 205], 39) := by decide +kernel
theorem dX7_itemThrown_40 : decode cX7_itemThrown 40 = .ok (.aload_n 0, 1) := by decide +kernel
theorem dX7_itemThrown_41 : decode cX7_itemThrown 41 = .ok (.iload_n 2, 1) := by decide +kernel
theorem dX7_itemThrown_42 : decode cX7_itemThrown 42 = .ok (.invokevirtual 100, 3) := by decide +kernel
theorem dX7_itemThrown_45 : decode cX7_itemThrown 45 = .ok (.ifCond .eq 7, 3) := by decide +kernel
theorem dX7_itemThrown_48 : decode cX7_itemThrown 48 = .ok (.iconst 0, 1) := by decide +kernel
theorem dX7_itemThrown_49 : decode cX7_itemThrown 49 = .ok (.goto 4, 3) := by decide +kernel
theorem dX7_itemThrown_52 : decode cX7_itemThrown 52 = .ok (.iconst 1, 1) := by decide +kernel
theorem dX7_itemThrown_53 : decode cX7_itemThrown 53 = .ok (.ireturn, 1) := by decide +kernel
theorem dX7_itemThrown_54 : decode cX7_itemThrown 54 = .ok (.iload_n 2, 1) := by decide +kernel
theorem dX7_itemThrown_55 : decode cX7_itemThrown 55 = .ok (.invokestatic 114, 3) := by decide +kernel
theorem dX7_itemThrown_58 : decode cX7_itemThrown 58 = .ok (.ifCond .ne 7, 3) := by decide +kernel
theorem dX7_itemThrown_61 : decode cX7_itemThrown 61 = .ok (.iconst 1, 1) := by decide +kernel
theorem dX7_itemThrown_62 : decode cX7_itemThrown 62 = .ok (.goto 40, 3) := by decide +kernel
theorem dX7_itemThrown_65 : decode cX7_itemThrown 65 = .ok (.iload_n 3, 1) := by decide +kernel
theorem dX7_itemThrown_66 : decode cX7_itemThrown 66 = .ok (.iconst 0, 1) := by decide +kernel
theorem dX7_itemThrown_67 : decode cX7_itemThrown 67 = .ok (.bipush 9, 2) := by decide +kernel
theorem dX7_itemThrown_69 : decode cX7_itemThrown 69 = .ok (.invokestatic 89, 3) := by decide +kernel
theorem dX7_itemThrown_72 : decode cX7_itemThrown 72 = .ok (.ifCond .ne 7, 3) := by decide +kernel
theorem dX7_itemThrown_75 : decode cX7_itemThrown 75 = .ok (.iconst 2, 1) := by decide +kernel
theorem dX7_itemThrown_76 : decode cX7_itemThrown 76 = .ok (.goto 26, 3) := by decide +kernel
theorem dX7_itemThrown_79 : decode cX7_itemThrown 79 = .ok (.aload_n 0, 1) := by decide +kernel
theorem dX7_itemThrown_80 : decode cX7_itemThrown 80 = .ok (.getfield 25, 3) := by decide +kernel
theorem dX7_itemThrown_83 : decode cX7_itemThrown 83 = .ok (.iload_n 2, 1) := by decide +kernel
theorem dX7_itemThrown_84 : decode cX7_itemThrown 84 = .ok (.iaload, 1) := by decide +kernel
theorem dX7_itemThrown_85 : decode cX7_itemThrown 85 = .ok (.iconst (-1), 1) := by decide +kernel
theorem dX7_itemThrown_86 : decode cX7_itemThrown 86 = .ok (.if_icmp .ne 11, 3) := by decide +kernel
theorem dX7_itemThrown_89 : decode cX7_itemThrown 89 = .ok (.aload_n 0, 1) := by decide +kernel
theorem dX7_itemThrown_90 : decode cX7_itemThrown 90 = .ok (.iload_n 3, 1) := by decide +kernel
theorem dX7_itemThrown_91 : decode cX7_itemThrown 91 = .ok (.invokevirtual 117, 3) := by decide +kernel
theorem dX7_itemThrown_94 : decode cX7_itemThrown 94 = .ok (.ifCond .eq 7, 3) := by decide +kernel
theorem dX7_itemThrown_97 : decode cX7_itemThrown 97 = .ok (.iconst 3, 1) := by decide +kernel
theorem dX7_itemThrown_98 : decode cX7_itemThrown 98 = .ok (.goto 4, 3) := by decide +kernel
theorem dX7_itemThrown_101 : decode cX7_itemThrown 101 = .ok (.iconst 0, 1) := by decide +kernel
theorem dX7_itemThrown_102 : decode cX7_itemThrown 102 = .ok (.ireturn, 1) := by decide +kernel
theorem dX7_itemThrown_103 : decode cX7_itemThrown 103 = .ok (.iload_n 2, 1) := by decide +kernel
theorem dX7_itemThrown_104 : decode cX7_itemThrown 104 = .ok (.invokestatic 114, 3) := by decide +kernel
theorem dX7_itemThrown_107 : decode cX7_itemThrown 107 = .ok (.ifCond .ne 7, 3) := by decide +kernel
theorem dX7_itemThrown_110 : decode cX7_itemThrown 110 = .ok (.iconst 1, 1) := by decide +kernel
theorem dX7_itemThrown_111 : decode cX7_itemThrown 111 = .ok (.goto 18, 3) := by decide +kernel
theorem dX7_itemThrown_114 : decode cX7_itemThrown 114 = .ok (.aload_n 0, 1) := by decide +kernel
theorem dX7_itemThrown_115 : decode cX7_itemThrown 115 = .ok (.getfield 25, 3) := by decide +kernel
theorem dX7_itemThrown_118 : decode cX7_itemThrown 118 = .ok (.iload_n 2, 1) := by decide +kernel
theorem dX7_itemThrown_119 : decode cX7_itemThrown 119 = .ok (.iaload, 1) := by decide +kernel
theorem dX7_itemThrown_120 : decode cX7_itemThrown 120 = .ok (.iconst (-1), 1) := by decide +kernel
theorem dX7_itemThrown_121 : decode cX7_itemThrown 121 = .ok (.if_icmp .ne 7, 3) := by decide +kernel
theorem dX7_itemThrown_124 : decode cX7_itemThrown 124 = .ok (.iconst 3, 1) := by decide +kernel
theorem dX7_itemThrown_125 : decode cX7_itemThrown 125 = .ok (.goto 4, 3) := by decide +kernel
theorem dX7_itemThrown_128 : decode cX7_itemThrown 128 = .ok (.iconst 0, 1) := by decide +kernel
theorem dX7_itemThrown_129 : decode cX7_itemThrown 129 = .ok (.ireturn, 1) := by decide +kernel
theorem dX7_itemThrown_130 : decode cX7_itemThrown 130 = .ok (.aload_n 0, 1) := by decide +kernel
theorem dX7_itemThrown_131 : decode cX7_itemThrown 131 = .ok (.iload_n 2, 1) := by decide +kernel
theorem dX7_itemThrown_132 : decode cX7_itemThrown 132 = .ok (.invokevirtual 100, 3) := by decide +kernel
theorem dX7_itemThrown_135 : decode cX7_itemThrown 135 = .ok (.ifCond .eq 22, 3) := by decide +kernel
theorem dX7_itemThrown_138 : decode cX7_itemThrown 138 = .ok (.iload_n 3, 1) := by decide +kernel
theorem dX7_itemThrown_139 : decode cX7_itemThrown 139 = .ok (.invokestatic 114, 3) := by decide +kernel
theorem dX7_itemThrown_142 : decode cX7_itemThrown 142 = .ok (.ifCond .eq 15, 3) := by decide +kernel
theorem dX7_itemThrown_145 : decode cX7_itemThrown 145 = .ok (.iload 4, 2) := by decide +kernel
theorem dX7_itemThrown_147 : decode cX7_itemThrown 147 = .ok (.invokestatic 114, 3) := by decide +kernel
theorem dX7_itemThrown_150 : decode cX7_itemThrown 150 = .ok (.ifCond .eq 7, 3) := by decide +kernel
theorem dX7_itemThrown_153 : decode cX7_itemThrown 153 = .ok (.iconst 1, 1) := by decide +kernel
theorem dX7_itemThrown_154 : decode cX7_itemThrown 154 = .ok (.goto 4, 3) := by decide +kernel
theorem dX7_itemThrown_157 : decode cX7_itemThrown 157 = .ok (.iconst 0, 1) := by decide +kernel
theorem dX7_itemThrown_158 : decode cX7_itemThrown 158 = .ok (.istore 5, 2) := by decide +kernel
theorem dX7_itemThrown_160 : decode cX7_itemThrown 160 = .ok (.iload 5, 2) := by decide +kernel
theorem dX7_itemThrown_162 : decode cX7_itemThrown 162 = .ok (.ifCond .ne 7, 3) := by decide +kernel
theorem dX7_itemThrown_165 : decode cX7_itemThrown 165 = .ok (.iconst 1, 1) := by decide +kernel
theorem dX7_itemThrown_166 : decode cX7_itemThrown 166 = .ok (.goto 39, 3) := by decide +kernel
theorem dX7_itemThrown_169 : decode cX7_itemThrown 169 = .ok (.iload_n 3, 1) := by decide +kernel
theorem dX7_itemThrown_170 : decode cX7_itemThrown 170 = .ok (.iload 4, 2) := by decide +kernel
theorem dX7_itemThrown_172 : decode cX7_itemThrown 172 = .ok (.if_icmp .ne 7, 3) := by decide +kernel
theorem dX7_itemThrown_175 : decode cX7_itemThrown 175 = .ok (.iconst 2, 1) := by decide +kernel
theorem dX7_itemThrown_176 : decode cX7_itemThrown 176 = .ok (.goto 29, 3) := by decide +kernel
theorem dX7_itemThrown_179 : decode cX7_itemThrown 179 = .ok (.aload_n 0, 1) := by decide +kernel
theorem dX7_itemThrown_180 : decode cX7_itemThrown 180 = .ok (.getfield 25, 3) := by decide +kernel
theorem dX7_itemThrown_183 : decode cX7_itemThrown 183 = .ok (.iload_n 3, 1) := by decide +kernel
theorem dX7_itemThrown_184 : decode cX7_itemThrown 184 = .ok (.iaload, 1) := by decide +kernel
theorem dX7_itemThrown_185 : decode cX7_itemThrown 185 = .ok (.iconst (-1), 1) := by decide +kernel
theorem dX7_itemThrown_186 : decode cX7_itemThrown 186 = .ok (.if_icmp .eq 14, 3) := by decide +kernel
theorem dX7_itemThrown_189 : decode cX7_itemThrown 189 = .ok (.aload_n 0, 1) := by decide +kernel
theorem dX7_itemThrown_190 : decode cX7_itemThrown 190 = .ok (.getfield 25, 3) := by decide +kernel
theorem dX7_itemThrown_193 : decode cX7_itemThrown 193 = .ok (.iload 4, 2) := by decide +kernel
theorem dX7_itemThrown_195 : decode cX7_itemThrown 195 = .ok (.iaload, 1) := by decide +kernel
theorem dX7_itemThrown_196 : decode cX7_itemThrown 196 = .ok (.iconst (-1), 1) := by decide +kernel
theorem dX7_itemThrown_197 : decode cX7_itemThrown 197 = .ok (.if_icmp .ne 7, 3) := by decide +kernel
theorem dX7_itemThrown_200 : decode cX7_itemThrown 200 = .ok (.iconst 3, 1) := by decide +kernel
theorem dX7_itemThrown_201 : decode cX7_itemThrown 201 = .ok (.goto 4, 3) := by decide +kernel
theorem dX7_itemThrown_204 : decode cX7_itemThrown 204 = .ok (.iconst 0, 1) := by decide +kernel
theorem dX7_itemThrown_205 : decode cX7_itemThrown 205 = .ok (.ireturn, 1) := by decide +kernel
theorem dX7_itemThrown_206 : decode cX7_itemThrown 206 = .ok (.iload_n 2, 1) := by decide +kernel
theorem dX7_itemThrown_207 : decode cX7_itemThrown 207 = .ok (.iconst 0, 1) := by decide +kernel
theorem dX7_itemThrown_208 : decode cX7_itemThrown 208 = .ok (.bipush 25, 2) := by decide +kernel
theorem dX7_itemThrown_210 : decode cX7_itemThrown 210 = .ok (.invokestatic 89, 3) := by decide +kernel
theorem dX7_itemThrown_213 : decode cX7_itemThrown 213 = .ok (.ifCond .eq 7, 3) := by decide +kernel
theorem dX7_itemThrown_216 : decode cX7_itemThrown 216 = .ok (.iconst 0, 1) := by decide +kernel
theorem dX7_itemThrown_217 : decode cX7_itemThrown 217 = .ok (.goto 4, 3) := by decide +kernel
theorem dX7_itemThrown_220 : decode cX7_itemThrown 220 = .ok (.iconst 2, 1) := by decide +kernel
theorem dX7_itemThrown_221 : decode cX7_itemThrown 221 = .ok (.ireturn, 1) := by decide +kernel
theorem dX7_itemThrown_222 : decode cX7_itemThrown 222 = .ok (.iconst 2, 1) := by decide +kernel
theorem dX7_itemThrown_223 : decode cX7_itemThrown 223 = .ok (.ireturn, 1) := by decide +kernel
theorem dX7_item_0 : decode cX7_item 0 = .ok (.aload_n 0, 1) := by decide +kernel
theorem dX7_item_1 : decode cX7_item 1 = .ok (.aload_n 0, 1) := by decide +kernel
theorem dX7_item_2 : decode cX7_item 2 = .ok (.iload_n 1, 1) := by decide +kernel
theorem dX7_item_3 : decode cX7_item 3 = .ok (.iload_n 2, 1) := by decide +kernel
theorem dX7_item_4 : decode cX7_item 4 = .ok (.iload_n 3, 1) := by decide +kernel
theorem dX7_item_5 : decode cX7_item 5 = .ok (.iload 4, 2) := by decide +kernel
theorem dX7_item_7 : decode cX7_item 7 = .ok (.invokevirtual 120, 3) := by decide +kernel
theorem dX7_item_10 : decode cX7_item 10 = .ok (.putfield 78, 3) := by decide +kernel
theorem dX7_item_13 : decode cX7_item 13 = .ok (.aload_n 0, 1) := by decide +kernel
theorem dX7_item_14 : decode cX7_item 14 = .ok (.aload_n 0, 1) := by decide +kernel
theorem dX7_item_15 : decode cX7_item 15 = .ok (.getfield 78, 3) := by decide +kernel
theorem dX7_item_18 : decode cX7_item 18 = .ok (.ifCond .ne 16, 3) := by decide +kernel
theorem dX7_item_21 : decode cX7_item 21 = .ok (.aload_n 0, 1) := by decide +kernel
theorem dX7_item_22 : decode cX7_item 22 = .ok (.getfield 93, 3) := by decide +kernel
theorem dX7_item_25 : decode cX7_item 25 = .ok (.bipush 14, 2) := by decide +kernel
theorem dX7_item_27 : decode cX7_item 27 = .ok (.if_icmp .ne 7, 3) := by decide +kernel
theorem dX7_item_30 : decode cX7_item 30 = .ok (.iconst 3, 1) := by decide +kernel
theorem dX7_item_31 : decode cX7_item 31 = .ok (.goto 7, 3) := by decide +kernel
theorem dX7_item_34 : decode cX7_item 34 = .ok (.aload_n 0, 1) := by decide +kernel
theorem dX7_item_35 : decode cX7_item 35 = .ok (.getfield 78, 3) := by decide +kernel
theorem dX7_item_38 : decode cX7_item 38 = .ok (.putfield 78, 3) := by decide +kernel
theorem dX7_item_41 : decode cX7_item 41 = .ok (.aload_n 0, 1) := by decide +kernel
theorem dX7_item_42 : decode cX7_item 42 = .ok (.getfield 78, 3) := by decide +kernel
theorem dX7_item_45 : decode cX7_item 45 = .ok (.ifCond .le 5, 3) := by decide +kernel
theorem dX7_item_48 : decode cX7_item 48 = .ok (.iconst 0, 1) := by decide +kernel
theorem dX7_item_49 : decode cX7_item 49 = .ok (.ireturn, 1) := by decide +kernel
theorem dX7_item_50 : decode cX7_item 50 = .ok (.aload_n 0, 1) := by decide +kernel
theorem dX7_item_51 : decode cX7_item 51 = .ok (.getfield 13, 3) := by decide +kernel
theorem dX7_item_54 : decode cX7_item 54 = .ok (.aload_n 0, 1) := by decide +kernel
theorem dX7_item_55 : decode cX7_item 55 = .ok (.getfield 93, 3) := by decide +kernel
theorem dX7_item_58 : decode cX7_item 58 = .ok (.iload_n 1, 1) := by decide +kernel
theorem dX7_item_59 : decode cX7_item 59 = .ok (.iastore, 1) := by decide +kernel
theorem dX7_item_60 : decode cX7_item 60 = .ok (.aload_n 0, 1) := by decide +kernel
theorem dX7_item_61 : decode cX7_item 61 = .ok (.getfield 16, 3) := by decide +kernel
theorem dX7_item_64 : decode cX7_item 64 = .ok (.aload_n 0, 1) := by decide +kernel
theorem dX7_item_65 : decode cX7_item 65 = .ok (.getfield 93, 3) := by decide +kernel
theorem dX7_item_68 : decode cX7_item 68 = .ok (.iload_n 2, 1) := by decide +kernel
theorem dX7_item_69 : decode cX7_item 69 = .ok (.iastore, 1) := by decide +kernel
theorem dX7_item_70 : decode cX7_item 70 = .ok (.aload_n 0, 1) := by decide +kernel
theorem dX7_item_71 : decode cX7_item 71 = .ok (.getfield 19, 3) := by decide +kernel
theorem dX7_item_74 : decode cX7_item 74 = .ok (.aload_n 0, 1) := by decide +kernel
theorem dX7_item_75 : decode cX7_item 75 = .ok (.getfield 93, 3) := by decide +kernel
theorem dX7_item_78 : decode cX7_item 78 = .ok (.iload_n 3, 1) := by decide +kernel
theorem dX7_item_79 : decode cX7_item 79 = .ok (.iastore, 1) := by decide +kernel
theorem dX7_item_80 : decode cX7_item 80 = .ok (.aload_n 0, 1) := by decide +kernel
theorem dX7_item_81 : decode cX7_item 81 = .ok (.getfield 22, 3) := by decide +kernel
theorem dX7_item_84 : decode cX7_item 84 = .ok (.aload_n 0, 1) := by decide +kernel
theorem dX7_item_85 : decode cX7_item 85 = .ok (.getfield 93, 3) := by decide +kernel
theorem dX7_item_88 : decode cX7_item 88 = .ok (.iload 4, 2) := by decide +kernel
theorem dX7_item_90 : decode cX7_item 90 = .ok (.iastore, 1) := by decide +kernel
theorem dX7_item_91 : decode cX7_item 91 = .ok (.iload_n 1, 1) := by decide +kernel
theorem dX7_item_92 : decode cX7_item 92 = .ok (.iconst 1, 1) := by decide +kernel
theorem dX7_item_93 : decode cX7_item 93 = .ok (.if_icmp .ne 13, 3) := by decide +kernel
theorem dX7_item_96 : decode cX7_item 96 = .ok (.aload_n 0, 1) := by decide +kernel
theorem dX7_item_97 : decode cX7_item 97 = .ok (.getfield 25, 3) := by decide +kernel
theorem dX7_item_100 : decode cX7_item 100 = .ok (.iload_n 2, 1) := by decide +kernel
theorem dX7_item_101 : decode cX7_item 101 = .ok (.iload_n 3, 1) := by decide +kernel
theorem dX7_item_102 : decode cX7_item 102 = .ok (.iastore, 1) := by decide +kernel
theorem dX7_item_103 : decode cX7_item 103 = .ok (.goto 15, 3) := by decide +kernel
theorem dX7_item_106 : decode cX7_item 106 = .ok (.iload_n 1, 1) := by decide +kernel
theorem dX7_item_107 : decode cX7_item 107 = .ok (.iconst 3, 1) := by decide +kernel
theorem dX7_item_108 : decode cX7_item 108 = .ok (.if_icmp .ne 10, 3) := by decide +kernel
theorem dX7_item_111 : decode cX7_item 111 = .ok (.aload_n 0, 1) := by decide +kernel
theorem dX7_item_112 : decode cX7_item 112 = .ok (.getfield 25, 3) := by decide +kernel
theorem dX7_item_115 : decode cX7_item 115 = .ok (.iload_n 2, 1) := by decide +kernel
theorem dX7_item_116 : decode cX7_item 116 = .ok (.iconst (-1), 1) := by decide +kernel
theorem dX7_item_117 : decode cX7_item 117 = .ok (.iastore, 1) := by decide +kernel
theorem dX7_item_118 : decode cX7_item 118 = .ok (.aload_n 0, 1) := by decide +kernel
theorem dX7_item_119 : decode cX7_item 119 = .ok (.dup, 1) := by decide +kernel
theorem dX7_item_120 : decode cX7_item 120 = .ok (.getfield 93, 3) := by decide +kernel
theorem dX7_item_123 : decode cX7_item 123 = .ok (.iconst 1, 1) := by decide +kernel
theorem dX7_item_124 : decode cX7_item 124 = .ok (.iadd, 1) := by decide +kernel
theorem dX7_item_125 : decode cX7_item 125 = .ok (.putfield 93, 3) := by decide +kernel
theorem dX7_item_128 : decode cX7_item 128 = .ok (.aload_n 0, 1) := by decide +kernel
theorem dX7_item_129 : decode cX7_item 129 = .ok (.getfield 93, 3) := by decide +kernel
theorem dX7_item_132 : decode cX7_item 132 = .ok (.ireturn, 1) := by decide +kernel
theorem dX7_clear_0 : decode cX7_clear 0 = .ok (.aload_n 0, 1) := by decide +kernel
theorem dX7_clear_1 : decode cX7_clear 1 = .ok (.iconst 0, 1) := by decide +kernel
theorem dX7_clear_2 : decode cX7_clear 2 = .ok (.putfield 78, 3) := by decide +kernel
theorem dX7_clear_5 : decode cX7_clear 5 = .ok (.aload_n 0, 1) := by decide +kernel
theorem dX7_clear_6 : decode cX7_clear 6 = .ok (.getfield 93, 3) := by decide +kernel
theorem dX7_clear_9 : decode cX7_clear 9 = .ok (.istore_n 1, 1) := by decide +kernel
theorem dX7_clear_10 : decode cX7_clear 10 = .ok (.aload_n 0, 1) := by decide +kernel
theorem dX7_clear_11 : decode cX7_clear 11 = .ok (.iconst 0, 1) := by decide +kernel
theorem dX7_clear_12 : decode cX7_clear 12 = .ok (.putfield 93, 3) := by decide +kernel
theorem dX7_clear_15 : decode cX7_clear 15 = .ok (.aload_n 0, 1) := by decide +kernel
theorem dX7_clear_16 : decode cX7_clear 16 = .ok (.iconst 0, 1) := by decide +kernel
theorem dX7_clear_17 : decode cX7_clear 17 = .ok (.putfield 124, 3) := by decide +kernel
theorem dX7_clear_20 : decode cX7_clear 20 = .ok (.iconst 0, 1) := by decide +kernel
theorem dX7_clear_21 : decode cX7_clear 21 = .ok (.istore_n 2, 1) := by decide +kernel
theorem dX7_clear_22 : decode cX7_clear 22 = .ok (.iload_n 2, 1) := by decide +kernel
theorem dX7_clear_23 : decode cX7_clear 23 = .ok (.iconst 4, 1) := by decide +kernel
theorem dX7_clear_24 : decode cX7_clear 24 = .ok (.if_icmp .ge 16, 3) := by decide +kernel
theorem dX7_clear_27 : decode cX7_clear 27 = .ok (.aload_n 0, 1) := by decide +kernel
theorem dX7_clear_28 : decode cX7_clear 28 = .ok (.getfield 25, 3) := by decide +kernel
theorem dX7_clear_31 : decode cX7_clear 31 = .ok (.iload_n 2, 1) := by decide +kernel
theorem dX7_clear_32 : decode cX7_clear 32 = .ok (.iconst (-1), 1) := by decide +kernel
theorem dX7_clear_33 : decode cX7_clear 33 = .ok (.iastore, 1) := by decide +kernel
theorem dX7_clear_34 : decode cX7_clear 34 = .ok (.iinc 2 1, 3) := by decide +kernel
theorem dX7_clear_37 : decode cX7_clear 37 = .ok (.goto (-15), 3) := by decide +kernel
theorem dX7_clear_40 : decode cX7_clear 40 = .ok (.iload_n 1, 1) := by decide +kernel
theorem dX7_clear_41 : decode cX7_clear 41 = .ok (.ireturn, 1) := by decide +kernel
theorem dX7_articulatorOf_0 : decode cX7_articulatorOf 0 = .ok (.iload_n 0, 1) := by decide +kernel
theorem dX7_articulatorOf_1 : decode cX7_articulatorOf 1 = .ok (.iconst 2, 1) := by decide +kernel
theorem dX7_articulatorOf_2 : decode cX7_articulatorOf 2 = .ok (.if_icmp .ge 7, 3) := by decide +kernel
theorem dX7_articulatorOf_5 : decode cX7_articulatorOf 5 = .ok (.iconst 0, 1) := by decide +kernel
theorem dX7_articulatorOf_6 : decode cX7_articulatorOf 6 = .ok (.goto 6, 3) := by decide +kernel
theorem dX7_articulatorOf_9 : decode cX7_articulatorOf 9 = .ok (.iload_n 0, 1) := by decide +kernel
theorem dX7_articulatorOf_10 : decode cX7_articulatorOf 10 = .ok (.iconst 1, 1) := by decide +kernel
theorem dX7_articulatorOf_11 : decode cX7_articulatorOf 11 = .ok (.isub, 1) := by decide +kernel
theorem dX7_articulatorOf_12 : decode cX7_articulatorOf 12 = .ok (.ireturn, 1) := by decide +kernel
theorem dX7_face_0 : decode cX7_face 0 = .ok (.aload_n 0, 1) := by decide +kernel
theorem dX7_face_1 : decode cX7_face 1 = .ok (.aload_n 0, 1) := by decide +kernel
theorem dX7_face_2 : decode cX7_face 2 = .ok (.iload_n 2, 1) := by decide +kernel
theorem dX7_face_3 : decode cX7_face 3 = .ok (.invokevirtual 127, 3) := by decide +kernel
theorem dX7_face_6 : decode cX7_face 6 = .ok (.ifCond .eq 11, 3) := by decide +kernel
theorem dX7_face_9 : decode cX7_face 9 = .ok (.aload_n 0, 1) := by decide +kernel
theorem dX7_face_10 : decode cX7_face 10 = .ok (.iload_n 3, 1) := by decide +kernel
theorem dX7_face_11 : decode cX7_face 11 = .ok (.invokevirtual 127, 3) := by decide +kernel
theorem dX7_face_14 : decode cX7_face 14 = .ok (.ifCond .ne 7, 3) := by decide +kernel
theorem dX7_face_17 : decode cX7_face 17 = .ok (.iconst 1, 1) := by decide +kernel
theorem dX7_face_18 : decode cX7_face 18 = .ok (.goto 35, 3) := by decide +kernel
theorem dX7_face_21 : decode cX7_face 21 = .ok (.iload_n 1, 1) := by decide +kernel
theorem dX7_face_22 : decode cX7_face 22 = .ok (.iconst 0, 1) := by decide +kernel
theorem dX7_face_23 : decode cX7_face 23 = .ok (.iconst 3, 1) := by decide +kernel
theorem dX7_face_24 : decode cX7_face 24 = .ok (.invokestatic 89, 3) := by decide +kernel
theorem dX7_face_27 : decode cX7_face 27 = .ok (.ifCond .eq 8, 3) := by decide +kernel
theorem dX7_face_30 : decode cX7_face 30 = .ok (.iload_n 3, 1) := by decide +kernel
theorem dX7_face_31 : decode cX7_face 31 = .ok (.iload_n 2, 1) := by decide +kernel
theorem dX7_face_32 : decode cX7_face 32 = .ok (.if_icmp .ge 7, 3) := by decide +kernel
theorem dX7_face_35 : decode cX7_face 35 = .ok (.iconst 2, 1) := by decide +kernel
theorem dX7_face_36 : decode cX7_face 36 = .ok (.goto 17, 3) := by decide +kernel
theorem dX7_face_39 : decode cX7_face 39 = .ok (.aload_n 0, 1) := by decide +kernel
theorem dX7_face_40 : decode cX7_face 40 = .ok (.getfield 124, 3) := by decide +kernel
theorem dX7_face_43 : decode cX7_face 43 = .ok (.bipush 8, 2) := by decide +kernel
theorem dX7_face_45 : decode cX7_face 45 = .ok (.if_icmp .ne 7, 3) := by decide +kernel
theorem dX7_face_48 : decode cX7_face 48 = .ok (.iconst 3, 1) := by decide +kernel
theorem dX7_face_49 : decode cX7_face 49 = .ok (.goto 4, 3) := by decide +kernel
theorem dX7_face_52 : decode cX7_face 52 = .ok (.iconst 0, 1) := by decide +kernel
theorem dX7_face_53 : decode cX7_face 53 = .ok (.putfield 78, 3) := by decide +kernel
theorem dX7_face_56 : decode cX7_face 56 = .ok (.iconst 0, 1) := by decide +kernel
theorem dX7_face_57 : decode cX7_face 57 = .ok (.istore 4, 2) := by decide +kernel
theorem dX7_face_59 : decode cX7_face 59 = .ok (.iload 4, 2) := by decide +kernel
theorem dX7_face_61 : decode cX7_face 61 = .ok (.aload_n 0, 1) := by decide +kernel
theorem dX7_face_62 : decode cX7_face 62 = .ok (.getfield 124, 3) := by decide +kernel
theorem dX7_face_65 : decode cX7_face 65 = .ok (.if_icmp .ge 64, 3) := by decide +kernel
theorem dX7_face_68 : decode cX7_face 68 = .ok (.aload_n 0, 1) := by decide +kernel
theorem dX7_face_69 : decode cX7_face 69 = .ok (.getfield 78, 3) := by decide +kernel
theorem dX7_face_72 : decode cX7_face 72 = .ok (.ifCond .ne 57, 3) := by decide +kernel
theorem dX7_face_75 : decode cX7_face 75 = .ok (.aload_n 0, 1) := by decide +kernel
theorem dX7_face_76 : decode cX7_face 76 = .ok (.aload_n 0, 1) := by decide +kernel
theorem dX7_face_77 : decode cX7_face 77 = .ok (.getfield 28, 3) := by decide +kernel
theorem dX7_face_80 : decode cX7_face 80 = .ok (.iload 4, 2) := by decide +kernel
theorem dX7_face_82 : decode cX7_face 82 = .ok (.iaload, 1) := by decide +kernel
theorem dX7_face_83 : decode cX7_face 83 = .ok (.invokestatic 130, 3) := by decide +kernel
theorem dX7_face_86 : decode cX7_face 86 = .ok (.iload_n 1, 1) := by decide +kernel
theorem dX7_face_87 : decode cX7_face 87 = .ok (.invokestatic 130, 3) := by decide +kernel
theorem dX7_face_90 : decode cX7_face 90 = .ok (.if_icmp .ne 29, 3) := by decide +kernel
theorem dX7_face_93 : decode cX7_face 93 = .ok (.aload_n 0, 1) := by decide +kernel
theorem dX7_face_94 : decode cX7_face 94 = .ok (.getfield 31, 3) := by decide +kernel
theorem dX7_face_97 : decode cX7_face 97 = .ok (.iload 4, 2) := by decide +kernel
theorem dX7_face_99 : decode cX7_face 99 = .ok (.iaload, 1) := by decide +kernel
theorem dX7_face_100 : decode cX7_face 100 = .ok (.iload_n 3, 1) := by decide +kernel
theorem dX7_face_101 : decode cX7_face 101 = .ok (.if_icmp .gt 18, 3) := by decide +kernel
theorem dX7_face_104 : decode cX7_face 104 = .ok (.iload_n 2, 1) := by decide +kernel
theorem dX7_face_105 : decode cX7_face 105 = .ok (.aload_n 0, 1) := by decide +kernel
theorem dX7_face_106 : decode cX7_face 106 = .ok (.getfield 34, 3) := by decide +kernel
theorem dX7_face_109 : decode cX7_face 109 = .ok (.iload 4, 2) := by decide +kernel
theorem dX7_face_111 : decode cX7_face 111 = .ok (.iaload, 1) := by decide +kernel
theorem dX7_face_112 : decode cX7_face 112 = .ok (.if_icmp .gt 7, 3) := by decide +kernel
theorem dX7_face_115 : decode cX7_face 115 = .ok (.iconst 3, 1) := by decide +kernel
theorem dX7_face_116 : decode cX7_face 116 = .ok (.goto 4, 3) := by decide +kernel
theorem dX7_face_119 : decode cX7_face 119 = .ok (.iconst 0, 1) := by decide +kernel
theorem dX7_face_120 : decode cX7_face 120 = .ok (.putfield 78, 3) := by decide +kernel
theorem dX7_face_123 : decode cX7_face 123 = .ok (.iinc 4 1, 3) := by decide +kernel
theorem dX7_face_126 : decode cX7_face 126 = .ok (.goto (-67), 3) := by decide +kernel
theorem dX7_face_129 : decode cX7_face 129 = .ok (.aload_n 0, 1) := by decide +kernel
theorem dX7_face_130 : decode cX7_face 130 = .ok (.getfield 78, 3) := by decide +kernel
theorem dX7_face_133 : decode cX7_face 133 = .ok (.ifCond .le 5, 3) := by decide +kernel
theorem dX7_face_136 : decode cX7_face 136 = .ok (.iconst 0, 1) := by decide +kernel
theorem dX7_face_137 : decode cX7_face 137 = .ok (.ireturn, 1) := by decide +kernel
theorem dX7_face_138 : decode cX7_face 138 = .ok (.aload_n 0, 1) := by decide +kernel
theorem dX7_face_139 : decode cX7_face 139 = .ok (.getfield 28, 3) := by decide +kernel
theorem dX7_face_142 : decode cX7_face 142 = .ok (.aload_n 0, 1) := by decide +kernel
theorem dX7_face_143 : decode cX7_face 143 = .ok (.getfield 124, 3) := by decide +kernel
theorem dX7_face_146 : decode cX7_face 146 = .ok (.iload_n 1, 1) := by decide +kernel
theorem dX7_face_147 : decode cX7_face 147 = .ok (.iastore, 1) := by decide +kernel
theorem dX7_face_148 : decode cX7_face 148 = .ok (.aload_n 0, 1) := by decide +kernel
theorem dX7_face_149 : decode cX7_face 149 = .ok (.getfield 31, 3) := by decide +kernel
theorem dX7_face_152 : decode cX7_face 152 = .ok (.aload_n 0, 1) := by decide +kernel
theorem dX7_face_153 : decode cX7_face 153 = .ok (.getfield 124, 3) := by decide +kernel
theorem dX7_face_156 : decode cX7_face 156 = .ok (.iload_n 2, 1) := by decide +kernel
theorem dX7_face_157 : decode cX7_face 157 = .ok (.iastore, 1) := by decide +kernel
theorem dX7_face_158 : decode cX7_face 158 = .ok (.aload_n 0, 1) := by decide +kernel
theorem dX7_face_159 : decode cX7_face 159 = .ok (.getfield 34, 3) := by decide +kernel
theorem dX7_face_162 : decode cX7_face 162 = .ok (.aload_n 0, 1) := by decide +kernel
theorem dX7_face_163 : decode cX7_face 163 = .ok (.getfield 124, 3) := by decide +kernel
theorem dX7_face_166 : decode cX7_face 166 = .ok (.iload_n 3, 1) := by decide +kernel
theorem dX7_face_167 : decode cX7_face 167 = .ok (.iastore, 1) := by decide +kernel
theorem dX7_face_168 : decode cX7_face 168 = .ok (.aload_n 0, 1) := by decide +kernel
theorem dX7_face_169 : decode cX7_face 169 = .ok (.dup, 1) := by decide +kernel
theorem dX7_face_170 : decode cX7_face 170 = .ok (.getfield 124, 3) := by decide +kernel
theorem dX7_face_173 : decode cX7_face 173 = .ok (.iconst 1, 1) := by decide +kernel
theorem dX7_face_174 : decode cX7_face 174 = .ok (.iadd, 1) := by decide +kernel
theorem dX7_face_175 : decode cX7_face 175 = .ok (.putfield 124, 3) := by decide +kernel
theorem dX7_face_178 : decode cX7_face 178 = .ok (.aload_n 0, 1) := by decide +kernel
theorem dX7_face_179 : decode cX7_face 179 = .ok (.getfield 124, 3) := by decide +kernel
theorem dX7_face_182 : decode cX7_face 182 = .ok (.ireturn, 1) := by decide +kernel
theorem dX7_over_0 : decode cX7_over 0 = .ok (.iconst (-1), 1) := by decide +kernel
theorem dX7_over_1 : decode cX7_over 1 = .ok (.istore_n 3, 1) := by decide +kernel
theorem dX7_over_2 : decode cX7_over 2 = .ok (.iconst 0, 1) := by decide +kernel
theorem dX7_over_3 : decode cX7_over 3 = .ok (.istore 4, 2) := by decide +kernel
theorem dX7_over_5 : decode cX7_over 5 = .ok (.iload 4, 2) := by decide +kernel
theorem dX7_over_7 : decode cX7_over 7 = .ok (.aload_n 0, 1) := by decide +kernel
theorem dX7_over_8 : decode cX7_over 8 = .ok (.getfield 124, 3) := by decide +kernel
theorem dX7_over_11 : decode cX7_over 11 = .ok (.if_icmp .ge 51, 3) := by decide +kernel
theorem dX7_over_14 : decode cX7_over 14 = .ok (.aload_n 0, 1) := by decide +kernel
theorem dX7_over_15 : decode cX7_over 15 = .ok (.getfield 28, 3) := by decide +kernel
theorem dX7_over_18 : decode cX7_over 18 = .ok (.iload 4, 2) := by decide +kernel
theorem dX7_over_20 : decode cX7_over 20 = .ok (.iaload, 1) := by decide +kernel
theorem dX7_over_21 : decode cX7_over 21 = .ok (.invokestatic 130, 3) := by decide +kernel
theorem dX7_over_24 : decode cX7_over 24 = .ok (.iload_n 2, 1) := by decide +kernel
theorem dX7_over_25 : decode cX7_over 25 = .ok (.if_icmp .ne 29, 3) := by decide +kernel
theorem dX7_over_28 : decode cX7_over 28 = .ok (.iload_n 1, 1) := by decide +kernel
theorem dX7_over_29 : decode cX7_over 29 = .ok (.aload_n 0, 1) := by decide +kernel
theorem dX7_over_30 : decode cX7_over 30 = .ok (.getfield 31, 3) := by decide +kernel
theorem dX7_over_33 : decode cX7_over 33 = .ok (.iload 4, 2) := by decide +kernel
theorem dX7_over_35 : decode cX7_over 35 = .ok (.iaload, 1) := by decide +kernel
theorem dX7_over_36 : decode cX7_over 36 = .ok (.aload_n 0, 1) := by decide +kernel
theorem dX7_over_37 : decode cX7_over 37 = .ok (.getfield 34, 3) := by decide +kernel
theorem dX7_over_40 : decode cX7_over 40 = .ok (.iload 4, 2) := by decide +kernel
theorem dX7_over_42 : decode cX7_over 42 = .ok (.iaload, 1) := by decide +kernel
theorem dX7_over_43 : decode cX7_over 43 = .ok (.invokestatic 89, 3) := by decide +kernel
theorem dX7_over_46 : decode cX7_over 46 = .ok (.ifCond .eq 8, 3) := by decide +kernel
theorem dX7_over_49 : decode cX7_over 49 = .ok (.iload 4, 2) := by decide +kernel
theorem dX7_over_51 : decode cX7_over 51 = .ok (.goto 4, 3) := by decide +kernel
theorem dX7_over_54 : decode cX7_over 54 = .ok (.iload_n 3, 1) := by decide +kernel
theorem dX7_over_55 : decode cX7_over 55 = .ok (.istore_n 3, 1) := by decide +kernel
theorem dX7_over_56 : decode cX7_over 56 = .ok (.iinc 4 1, 3) := by decide +kernel
theorem dX7_over_59 : decode cX7_over 59 = .ok (.goto (-54), 3) := by decide +kernel
theorem dX7_over_62 : decode cX7_over 62 = .ok (.iload_n 3, 1) := by decide +kernel
theorem dX7_over_63 : decode cX7_over 63 = .ok (.ireturn, 1) := by decide +kernel
theorem dX7_isPointing_0 : decode cX7_isPointing 0 = .ok (.aload_n 0, 1) := by decide +kernel
theorem dX7_isPointing_1 : decode cX7_isPointing 1 = .ok (.getfield 13, 3) := by decide +kernel
theorem dX7_isPointing_4 : decode cX7_isPointing 4 = .ok (.iload_n 1, 1) := by decide +kernel
theorem dX7_isPointing_5 : decode cX7_isPointing 5 = .ok (.iaload, 1) := by decide +kernel
theorem dX7_isPointing_6 : decode cX7_isPointing 6 = .ok (.iconst 1, 1) := by decide +kernel
theorem dX7_isPointing_7 : decode cX7_isPointing 7 = .ok (.iconst 3, 1) := by decide +kernel
theorem dX7_isPointing_8 : decode cX7_isPointing 8 = .ok (.invokestatic 89, 3) := by decide +kernel
theorem dX7_isPointing_11 : decode cX7_isPointing 11 = .ok (.ireturn, 1) := by decide +kernel
theorem dX7_shownAt_0 : decode cX7_shownAt 0 = .ok (.iload_n 1, 1) := by decide +kernel
theorem dX7_shownAt_1 : decode cX7_shownAt 1 = .ok (.istore_n 3, 1) := by decide +kernel
theorem dX7_shownAt_2 : decode cX7_shownAt 2 = .ok (.iload_n 3, 1) := by decide +kernel
theorem dX7_shownAt_3 : decode cX7_shownAt 3 = .ok (.ifCond .le 27, 3) := by decide +kernel
theorem dX7_shownAt_6 : decode cX7_shownAt 6 = .ok (.aload_n 0, 1) := by decide +kernel
theorem dX7_shownAt_7 : decode cX7_shownAt 7 = .ok (.iload_n 3, 1) := by decide +kernel
theorem dX7_shownAt_8 : decode cX7_shownAt 8 = .ok (.iload_n 2, 1) := by decide +kernel
theorem dX7_shownAt_9 : decode cX7_shownAt 9 = .ok (.invokevirtual 133, 3) := by decide +kernel
theorem dX7_shownAt_12 : decode cX7_shownAt 12 = .ok (.iconst (-1), 1) := by decide +kernel
theorem dX7_shownAt_13 : decode cX7_shownAt 13 = .ok (.if_icmp .ne 17, 3) := by decide +kernel
theorem dX7_shownAt_16 : decode cX7_shownAt 16 = .ok (.aload_n 0, 1) := by decide +kernel
theorem dX7_shownAt_17 : decode cX7_shownAt 17 = .ok (.iload_n 3, 1) := by decide +kernel
theorem dX7_shownAt_18 : decode cX7_shownAt 18 = .ok (.invokevirtual 136, 3) := by decide +kernel
theorem dX7_shownAt_21 : decode cX7_shownAt 21 = .ok (.ifCond .eq 9, 3) := by decide +kernel
theorem dX7_shownAt_24 : decode cX7_shownAt 24 = .ok (.iinc 3 (-1), 3) := by decide +kernel
theorem dX7_shownAt_27 : decode cX7_shownAt 27 = .ok (.goto (-25), 3) := by decide +kernel
theorem dX7_shownAt_30 : decode cX7_shownAt 30 = .ok (.aload_n 0, 1) := by decide +kernel
theorem dX7_shownAt_31 : decode cX7_shownAt 31 = .ok (.iload_n 3, 1) := by decide +kernel
theorem dX7_shownAt_32 : decode cX7_shownAt 32 = .ok (.iload_n 2, 1) := by decide +kernel
theorem dX7_shownAt_33 : decode cX7_shownAt 33 = .ok (.invokevirtual 133, 3) := by decide +kernel
theorem dX7_shownAt_36 : decode cX7_shownAt 36 = .ok (.istore 4, 2) := by decide +kernel
theorem dX7_shownAt_38 : decode cX7_shownAt 38 = .ok (.iload 4, 2) := by decide +kernel
theorem dX7_shownAt_40 : decode cX7_shownAt 40 = .ok (.iconst (-1), 1) := by decide +kernel
theorem dX7_shownAt_41 : decode cX7_shownAt 41 = .ok (.if_icmp .ne 7, 3) := by decide +kernel
theorem dX7_shownAt_44 : decode cX7_shownAt 44 = .ok (.iconst (-1), 1) := by decide +kernel
theorem dX7_shownAt_45 : decode cX7_shownAt 45 = .ok (.goto 10, 3) := by decide +kernel
theorem dX7_shownAt_48 : decode cX7_shownAt 48 = .ok (.aload_n 0, 1) := by decide +kernel
theorem dX7_shownAt_49 : decode cX7_shownAt 49 = .ok (.getfield 28, 3) := by decide +kernel
theorem dX7_shownAt_52 : decode cX7_shownAt 52 = .ok (.iload 4, 2) := by decide +kernel
theorem dX7_shownAt_54 : decode cX7_shownAt 54 = .ok (.iaload, 1) := by decide +kernel
theorem dX7_shownAt_55 : decode cX7_shownAt 55 = .ok (.ireturn, 1) := by decide +kernel
theorem dX7_shown_0 : decode cX7_shown 0 = .ok (.aload_n 0, 1) := by decide +kernel
theorem dX7_shown_1 : decode cX7_shown 1 = .ok (.aload_n 0, 1) := by decide +kernel
theorem dX7_shown_2 : decode cX7_shown 2 = .ok (.iload_n 1, 1) := by decide +kernel
theorem dX7_shown_3 : decode cX7_shown 3 = .ok (.invokevirtual 127, 3) := by decide +kernel
theorem dX7_shown_6 : decode cX7_shown 6 = .ok (.ifCond .ne 7, 3) := by decide +kernel
theorem dX7_shown_9 : decode cX7_shown 9 = .ok (.iconst 1, 1) := by decide +kernel
theorem dX7_shown_10 : decode cX7_shown 10 = .ok (.goto 17, 3) := by decide +kernel
theorem dX7_shown_13 : decode cX7_shown 13 = .ok (.iload_n 2, 1) := by decide +kernel
theorem dX7_shown_14 : decode cX7_shown 14 = .ok (.iconst 0, 1) := by decide +kernel
theorem dX7_shown_15 : decode cX7_shown 15 = .ok (.iconst 2, 1) := by decide +kernel
theorem dX7_shown_16 : decode cX7_shown 16 = .ok (.invokestatic 89, 3) := by decide +kernel
theorem dX7_shown_19 : decode cX7_shown 19 = .ok (.ifCond .ne 7, 3) := by decide +kernel
theorem dX7_shown_22 : decode cX7_shown 22 = .ok (.iconst 2, 1) := by decide +kernel
theorem dX7_shown_23 : decode cX7_shown 23 = .ok (.goto 4, 3) := by decide +kernel
theorem dX7_shown_26 : decode cX7_shown 26 = .ok (.iconst 0, 1) := by decide +kernel
theorem dX7_shown_27 : decode cX7_shown 27 = .ok (.putfield 78, 3) := by decide +kernel
theorem dX7_shown_30 : decode cX7_shown 30 = .ok (.aload_n 0, 1) := by decide +kernel
theorem dX7_shown_31 : decode cX7_shown 31 = .ok (.getfield 78, 3) := by decide +kernel
theorem dX7_shown_34 : decode cX7_shown 34 = .ok (.ifCond .le 7, 3) := by decide +kernel
theorem dX7_shown_37 : decode cX7_shown 37 = .ok (.iconst 0, 1) := by decide +kernel
theorem dX7_shown_38 : decode cX7_shown 38 = .ok (.goto 9, 3) := by decide +kernel
theorem dX7_shown_41 : decode cX7_shown 41 = .ok (.aload_n 0, 1) := by decide +kernel
theorem dX7_shown_42 : decode cX7_shown 42 = .ok (.iload_n 1, 1) := by decide +kernel
theorem dX7_shown_43 : decode cX7_shown 43 = .ok (.iload_n 2, 1) := by decide +kernel
theorem dX7_shown_44 : decode cX7_shown 44 = .ok (.invokevirtual 139, 3) := by decide +kernel
theorem dX7_shown_47 : decode cX7_shown 47 = .ok (.ireturn, 1) := by decide +kernel
theorem dX7_standsFor_0 : decode cX7_standsFor 0 = .ok (.aload_n 0, 1) := by decide +kernel
theorem dX7_standsFor_1 : decode cX7_standsFor 1 = .ok (.aload_n 0, 1) := by decide +kernel
theorem dX7_standsFor_2 : decode cX7_standsFor 2 = .ok (.iload_n 1, 1) := by decide +kernel
theorem dX7_standsFor_3 : decode cX7_standsFor 3 = .ok (.invokevirtual 127, 3) := by decide +kernel
theorem dX7_standsFor_6 : decode cX7_standsFor 6 = .ok (.ifCond .eq 14, 3) := by decide +kernel
theorem dX7_standsFor_9 : decode cX7_standsFor 9 = .ok (.iload_n 2, 1) := by decide +kernel
theorem dX7_standsFor_10 : decode cX7_standsFor 10 = .ok (.invokestatic 114, 3) := by decide +kernel
theorem dX7_standsFor_13 : decode cX7_standsFor 13 = .ok (.ifCond .eq 7, 3) := by decide +kernel
theorem dX7_standsFor_16 : decode cX7_standsFor 16 = .ok (.iconst 0, 1) := by decide +kernel
theorem dX7_standsFor_17 : decode cX7_standsFor 17 = .ok (.goto 4, 3) := by decide +kernel
theorem dX7_standsFor_20 : decode cX7_standsFor 20 = .ok (.iconst 1, 1) := by decide +kernel
theorem dX7_standsFor_21 : decode cX7_standsFor 21 = .ok (.putfield 78, 3) := by decide +kernel
theorem dX7_standsFor_24 : decode cX7_standsFor 24 = .ok (.iconst (-1), 1) := by decide +kernel
theorem dX7_standsFor_25 : decode cX7_standsFor 25 = .ok (.istore_n 3, 1) := by decide +kernel
theorem dX7_standsFor_26 : decode cX7_standsFor 26 = .ok (.iconst 0, 1) := by decide +kernel
theorem dX7_standsFor_27 : decode cX7_standsFor 27 = .ok (.istore 4, 2) := by decide +kernel
theorem dX7_standsFor_29 : decode cX7_standsFor 29 = .ok (.iload 4, 2) := by decide +kernel
theorem dX7_standsFor_31 : decode cX7_standsFor 31 = .ok (.iload_n 1, 1) := by decide +kernel
theorem dX7_standsFor_32 : decode cX7_standsFor 32 = .ok (.if_icmp .gt 82, 3) := by decide +kernel
theorem dX7_standsFor_35 : decode cX7_standsFor 35 = .ok (.aload_n 0, 1) := by decide +kernel
theorem dX7_standsFor_36 : decode cX7_standsFor 36 = .ok (.getfield 78, 3) := by decide +kernel
theorem dX7_standsFor_39 : decode cX7_standsFor 39 = .ok (.ifCond .ne 75, 3) := by decide +kernel
theorem dX7_standsFor_42 : decode cX7_standsFor 42 = .ok (.aload_n 0, 1) := by decide +kernel
theorem dX7_standsFor_43 : decode cX7_standsFor 43 = .ok (.getfield 16, 3) := by decide +kernel
theorem dX7_standsFor_46 : decode cX7_standsFor 46 = .ok (.iload 4, 2) := by decide +kernel
theorem dX7_standsFor_48 : decode cX7_standsFor 48 = .ok (.iaload, 1) := by decide +kernel
theorem dX7_standsFor_49 : decode cX7_standsFor 49 = .ok (.iload_n 2, 1) := by decide +kernel
theorem dX7_standsFor_50 : decode cX7_standsFor 50 = .ok (.if_icmp .ne 7, 3) := by decide +kernel
theorem dX7_standsFor_53 : decode cX7_standsFor 53 = .ok (.iconst 1, 1) := by decide +kernel
theorem dX7_standsFor_54 : decode cX7_standsFor 54 = .ok (.goto 4, 3) := by decide +kernel
theorem dX7_standsFor_57 : decode cX7_standsFor 57 = .ok (.iconst 0, 1) := by decide +kernel
theorem dX7_standsFor_58 : decode cX7_standsFor 58 = .ok (.istore 5, 2) := by decide +kernel
theorem dX7_standsFor_60 : decode cX7_standsFor 60 = .ok (.iload 5, 2) := by decide +kernel
theorem dX7_standsFor_62 : decode cX7_standsFor 62 = .ok (.ifCond .eq 24, 3) := by decide +kernel
theorem dX7_standsFor_65 : decode cX7_standsFor 65 = .ok (.aload_n 0, 1) := by decide +kernel
theorem dX7_standsFor_66 : decode cX7_standsFor 66 = .ok (.getfield 13, 3) := by decide +kernel
theorem dX7_standsFor_69 : decode cX7_standsFor 69 = .ok (.iload 4, 2) := by decide +kernel
theorem dX7_standsFor_71 : decode cX7_standsFor 71 = .ok (.iaload, 1) := by decide +kernel
theorem dX7_standsFor_72 : decode cX7_standsFor 72 = .ok (.iconst 1, 1) := by decide +kernel
theorem dX7_standsFor_73 : decode cX7_standsFor 73 = .ok (.if_icmp .ne 13, 3) := by decide +kernel
theorem dX7_standsFor_76 : decode cX7_standsFor 76 = .ok (.aload_n 0, 1) := by decide +kernel
theorem dX7_standsFor_77 : decode cX7_standsFor 77 = .ok (.getfield 19, 3) := by decide +kernel
theorem dX7_standsFor_80 : decode cX7_standsFor 80 = .ok (.iload 4, 2) := by decide +kernel
theorem dX7_standsFor_82 : decode cX7_standsFor 82 = .ok (.iaload, 1) := by decide +kernel
theorem dX7_standsFor_83 : decode cX7_standsFor 83 = .ok (.goto 24, 3) := by decide +kernel
theorem dX7_standsFor_86 : decode cX7_standsFor 86 = .ok (.iload 5, 2) := by decide +kernel
theorem dX7_standsFor_88 : decode cX7_standsFor 88 = .ok (.ifCond .eq 18, 3) := by decide +kernel
theorem dX7_standsFor_91 : decode cX7_standsFor 91 = .ok (.aload_n 0, 1) := by decide +kernel
theorem dX7_standsFor_92 : decode cX7_standsFor 92 = .ok (.getfield 13, 3) := by decide +kernel
theorem dX7_standsFor_95 : decode cX7_standsFor 95 = .ok (.iload 4, 2) := by decide +kernel
theorem dX7_standsFor_97 : decode cX7_standsFor 97 = .ok (.iaload, 1) := by decide +kernel
theorem dX7_standsFor_98 : decode cX7_standsFor 98 = .ok (.iconst 3, 1) := by decide +kernel
theorem dX7_standsFor_99 : decode cX7_standsFor 99 = .ok (.if_icmp .ne 7, 3) := by decide +kernel
theorem dX7_standsFor_102 : decode cX7_standsFor 102 = .ok (.iconst (-1), 1) := by decide +kernel
theorem dX7_standsFor_103 : decode cX7_standsFor 103 = .ok (.goto 4, 3) := by decide +kernel
theorem dX7_standsFor_106 : decode cX7_standsFor 106 = .ok (.iload_n 3, 1) := by decide +kernel
theorem dX7_standsFor_107 : decode cX7_standsFor 107 = .ok (.istore_n 3, 1) := by decide +kernel
theorem dX7_standsFor_108 : decode cX7_standsFor 108 = .ok (.iinc 4 1, 3) := by decide +kernel
theorem dX7_standsFor_111 : decode cX7_standsFor 111 = .ok (.goto (-82), 3) := by decide +kernel
theorem dX7_standsFor_114 : decode cX7_standsFor 114 = .ok (.aload_n 0, 1) := by decide +kernel
theorem dX7_standsFor_115 : decode cX7_standsFor 115 = .ok (.getfield 78, 3) := by decide +kernel
theorem dX7_standsFor_118 : decode cX7_standsFor 118 = .ok (.ifCond .le 7, 3) := by decide +kernel
theorem dX7_standsFor_121 : decode cX7_standsFor 121 = .ok (.iconst 0, 1) := by decide +kernel
theorem dX7_standsFor_122 : decode cX7_standsFor 122 = .ok (.goto 4, 3) := by decide +kernel
theorem dX7_standsFor_125 : decode cX7_standsFor 125 = .ok (.iload_n 3, 1) := by decide +kernel
theorem dX7_standsFor_126 : decode cX7_standsFor 126 = .ok (.ireturn, 1) := by decide +kernel
theorem dX7_rule_0 : decode cX7_rule 0 = .ok (.aload_n 0, 1) := by decide +kernel
theorem dX7_rule_1 : decode cX7_rule 1 = .ok (.iload_n 1, 1) := by decide +kernel
theorem dX7_rule_2 : decode cX7_rule 2 = .ok (.iconst 0, 1) := by decide +kernel
theorem dX7_rule_3 : decode cX7_rule 3 = .ok (.iconst 4, 1) := by decide +kernel
theorem dX7_rule_4 : decode cX7_rule 4 = .ok (.invokestatic 89, 3) := by decide +kernel
theorem dX7_rule_7 : decode cX7_rule 7 = .ok (.ifCond .ne 7, 3) := by decide +kernel
theorem dX7_rule_10 : decode cX7_rule 10 = .ok (.iconst 1, 1) := by decide +kernel
theorem dX7_rule_11 : decode cX7_rule 11 = .ok (.goto 17, 3) := by decide +kernel
theorem dX7_rule_14 : decode cX7_rule 14 = .ok (.aload_n 0, 1) := by decide +kernel
theorem dX7_rule_15 : decode cX7_rule 15 = .ok (.getfield 142, 3) := by decide +kernel
theorem dX7_rule_18 : decode cX7_rule 18 = .ok (.bipush 6, 2) := by decide +kernel
theorem dX7_rule_20 : decode cX7_rule 20 = .ok (.if_icmp .ne 7, 3) := by decide +kernel
theorem dX7_rule_23 : decode cX7_rule 23 = .ok (.iconst 2, 1) := by decide +kernel
theorem dX7_rule_24 : decode cX7_rule 24 = .ok (.goto 4, 3) := by decide +kernel
theorem dX7_rule_27 : decode cX7_rule 27 = .ok (.iconst 0, 1) := by decide +kernel
theorem dX7_rule_28 : decode cX7_rule 28 = .ok (.putfield 78, 3) := by decide +kernel
theorem dX7_rule_31 : decode cX7_rule 31 = .ok (.aload_n 0, 1) := by decide +kernel
theorem dX7_rule_32 : decode cX7_rule 32 = .ok (.getfield 78, 3) := by decide +kernel
theorem dX7_rule_35 : decode cX7_rule 35 = .ok (.ifCond .le 5, 3) := by decide +kernel
theorem dX7_rule_38 : decode cX7_rule 38 = .ok (.iconst 0, 1) := by decide +kernel
theorem dX7_rule_39 : decode cX7_rule 39 = .ok (.ireturn, 1) := by decide +kernel
theorem dX7_rule_40 : decode cX7_rule 40 = .ok (.aload_n 0, 1) := by decide +kernel
theorem dX7_rule_41 : decode cX7_rule 41 = .ok (.getfield 37, 3) := by decide +kernel
theorem dX7_rule_44 : decode cX7_rule 44 = .ok (.aload_n 0, 1) := by decide +kernel
theorem dX7_rule_45 : decode cX7_rule 45 = .ok (.getfield 142, 3) := by decide +kernel
theorem dX7_rule_48 : decode cX7_rule 48 = .ok (.iload_n 1, 1) := by decide +kernel
theorem dX7_rule_49 : decode cX7_rule 49 = .ok (.iastore, 1) := by decide +kernel
theorem dX7_rule_50 : decode cX7_rule 50 = .ok (.aload_n 0, 1) := by decide +kernel
theorem dX7_rule_51 : decode cX7_rule 51 = .ok (.getfield 40, 3) := by decide +kernel
theorem dX7_rule_54 : decode cX7_rule 54 = .ok (.aload_n 0, 1) := by decide +kernel
theorem dX7_rule_55 : decode cX7_rule 55 = .ok (.getfield 142, 3) := by decide +kernel
theorem dX7_rule_58 : decode cX7_rule 58 = .ok (.iconst 0, 1) := by decide +kernel
theorem dX7_rule_59 : decode cX7_rule 59 = .ok (.iastore, 1) := by decide +kernel
theorem dX7_rule_60 : decode cX7_rule 60 = .ok (.aload_n 0, 1) := by decide +kernel
theorem dX7_rule_61 : decode cX7_rule 61 = .ok (.dup, 1) := by decide +kernel
theorem dX7_rule_62 : decode cX7_rule 62 = .ok (.getfield 142, 3) := by decide +kernel
theorem dX7_rule_65 : decode cX7_rule 65 = .ok (.iconst 1, 1) := by decide +kernel
theorem dX7_rule_66 : decode cX7_rule 66 = .ok (.iadd, 1) := by decide +kernel
theorem dX7_rule_67 : decode cX7_rule 67 = .ok (.putfield 142, 3) := by decide +kernel
theorem dX7_rule_70 : decode cX7_rule 70 = .ok (.aload_n 0, 1) := by decide +kernel
theorem dX7_rule_71 : decode cX7_rule 71 = .ok (.getfield 142, 3) := by decide +kernel
theorem dX7_rule_74 : decode cX7_rule 74 = .ok (.iconst 1, 1) := by decide +kernel
theorem dX7_rule_75 : decode cX7_rule 75 = .ok (.isub, 1) := by decide +kernel
theorem dX7_rule_76 : decode cX7_rule 76 = .ok (.ireturn, 1) := by decide +kernel
theorem dX7_except_0 : decode cX7_except 0 = .ok (.aload_n 0, 1) := by decide +kernel
theorem dX7_except_1 : decode cX7_except 1 = .ok (.iload_n 1, 1) := by decide +kernel
theorem dX7_except_2 : decode cX7_except 2 = .ok (.iconst 0, 1) := by decide +kernel
theorem dX7_except_3 : decode cX7_except 3 = .ok (.aload_n 0, 1) := by decide +kernel
theorem dX7_except_4 : decode cX7_except 4 = .ok (.getfield 142, 3) := by decide +kernel
theorem dX7_except_7 : decode cX7_except 7 = .ok (.iconst 1, 1) := by decide +kernel
theorem dX7_except_8 : decode cX7_except 8 = .ok (.isub, 1) := by decide +kernel
theorem dX7_except_9 : decode cX7_except 9 = .ok (.invokestatic 89, 3) := by decide +kernel
theorem dX7_except_12 : decode cX7_except 12 = .ok (.ifCond .eq 15, 3) := by decide +kernel
theorem dX7_except_15 : decode cX7_except 15 = .ok (.aload_n 0, 1) := by decide +kernel
theorem dX7_except_16 : decode cX7_except 16 = .ok (.iload_n 2, 1) := by decide +kernel
theorem dX7_except_17 : decode cX7_except 17 = .ok (.invokevirtual 100, 3) := by decide +kernel
theorem dX7_except_20 : decode cX7_except 20 = .ok (.ifCond .eq 7, 3) := by decide +kernel
theorem dX7_except_23 : decode cX7_except 23 = .ok (.iconst 0, 1) := by decide +kernel
theorem dX7_except_24 : decode cX7_except 24 = .ok (.goto 4, 3) := by decide +kernel
theorem dX7_except_27 : decode cX7_except 27 = .ok (.iconst 1, 1) := by decide +kernel
theorem dX7_except_28 : decode cX7_except 28 = .ok (.putfield 78, 3) := by decide +kernel
theorem dX7_except_31 : decode cX7_except 31 = .ok (.aload_n 0, 1) := by decide +kernel
theorem dX7_except_32 : decode cX7_except 32 = .ok (.getfield 78, 3) := by decide +kernel
theorem dX7_except_35 : decode cX7_except 35 = .ok (.ifCond .le 5, 3) := by decide +kernel
theorem dX7_except_38 : decode cX7_except 38 = .ok (.iconst 0, 1) := by decide +kernel
theorem dX7_except_39 : decode cX7_except 39 = .ok (.ireturn, 1) := by decide +kernel
theorem dX7_except_40 : decode cX7_except 40 = .ok (.aload_n 0, 1) := by decide +kernel
theorem dX7_except_41 : decode cX7_except 41 = .ok (.getfield 40, 3) := by decide +kernel
theorem dX7_except_44 : decode cX7_except 44 = .ok (.iload_n 1, 1) := by decide +kernel
theorem dX7_except_45 : decode cX7_except 45 = .ok (.dup2, 1) := by decide +kernel
theorem dX7_except_46 : decode cX7_except 46 = .ok (.iaload, 1) := by decide +kernel
theorem dX7_except_47 : decode cX7_except 47 = .ok (.iconst 1, 1) := by decide +kernel
theorem dX7_except_48 : decode cX7_except 48 = .ok (.iload_n 2, 1) := by decide +kernel
theorem dX7_except_49 : decode cX7_except 49 = .ok (.ishl, 1) := by decide +kernel
theorem dX7_except_50 : decode cX7_except 50 = .ok (.ixor, 1) := by decide +kernel
theorem dX7_except_51 : decode cX7_except 51 = .ok (.iastore, 1) := by decide +kernel
theorem dX7_except_52 : decode cX7_except 52 = .ok (.aload_n 0, 1) := by decide +kernel
theorem dX7_except_53 : decode cX7_except 53 = .ok (.getfield 40, 3) := by decide +kernel
theorem dX7_except_56 : decode cX7_except 56 = .ok (.iload_n 1, 1) := by decide +kernel
theorem dX7_except_57 : decode cX7_except 57 = .ok (.iaload, 1) := by decide +kernel
theorem dX7_except_58 : decode cX7_except 58 = .ok (.iload_n 2, 1) := by decide +kernel
theorem dX7_except_59 : decode cX7_except 59 = .ok (.ishr, 1) := by decide +kernel
theorem dX7_except_60 : decode cX7_except 60 = .ok (.iconst 1, 1) := by decide +kernel
theorem dX7_except_61 : decode cX7_except 61 = .ok (.iand, 1) := by decide +kernel
theorem dX7_except_62 : decode cX7_except 62 = .ok (.iconst 1, 1) := by decide +kernel
theorem dX7_except_63 : decode cX7_except 63 = .ok (.if_icmp .ne 7, 3) := by decide +kernel
theorem dX7_except_66 : decode cX7_except 66 = .ok (.iconst 1, 1) := by decide +kernel
theorem dX7_except_67 : decode cX7_except 67 = .ok (.goto 4, 3) := by decide +kernel
theorem dX7_except_70 : decode cX7_except 70 = .ok (.iconst 0, 1) := by decide +kernel
theorem dX7_except_71 : decode cX7_except 71 = .ok (.ireturn, 1) := by decide +kernel
theorem dX7_hand_0 : decode cX7_hand 0 = .ok (.aload_n 0, 1) := by decide +kernel
theorem dX7_hand_1 : decode cX7_hand 1 = .ok (.getfield 75, 3) := by decide +kernel
theorem dX7_hand_4 : decode cX7_hand 4 = .ok (.bipush 7, 2) := by decide +kernel
theorem dX7_hand_6 : decode cX7_hand 6 = .ok (.iload_n 1, 1) := by decide +kernel
theorem dX7_hand_7 : decode cX7_hand 7 = .ok (.imul, 1) := by decide +kernel
theorem dX7_hand_8 : decode cX7_hand 8 = .ok (.iload_n 2, 1) := by decide +kernel
theorem dX7_hand_9 : decode cX7_hand 9 = .ok (.iadd, 1) := by decide +kernel
theorem dX7_hand_10 : decode cX7_hand 10 = .ok (.iaload, 1) := by decide +kernel
theorem dX7_hand_11 : decode cX7_hand 11 = .ok (.ireturn, 1) := by decide +kernel
theorem dX7_gives_0 : decode cX7_gives 0 = .ok (.aload_n 0, 1) := by decide +kernel
theorem dX7_gives_1 : decode cX7_gives 1 = .ok (.getfield 75, 3) := by decide +kernel
theorem dX7_gives_4 : decode cX7_gives 4 = .ok (.bipush 7, 2) := by decide +kernel
theorem dX7_gives_6 : decode cX7_gives 6 = .ok (.iload_n 1, 1) := by decide +kernel
theorem dX7_gives_7 : decode cX7_gives 7 = .ok (.imul, 1) := by decide +kernel
theorem dX7_gives_8 : decode cX7_gives 8 = .ok (.iload_n 2, 1) := by decide +kernel
theorem dX7_gives_9 : decode cX7_gives 9 = .ok (.iadd, 1) := by decide +kernel
theorem dX7_gives_10 : decode cX7_gives 10 = .ok (.iload_n 3, 1) := by decide +kernel
theorem dX7_gives_11 : decode cX7_gives 11 = .ok (.iastore, 1) := by decide +kernel
theorem dX7_gives_12 : decode cX7_gives 12 = .ok (.return_, 1) := by decide +kernel
theorem dX7_begins_0 : decode cX7_begins 0 = .ok (.aload_n 0, 1) := by decide +kernel
theorem dX7_begins_1 : decode cX7_begins 1 = .ok (.getfield 13, 3) := by decide +kernel
theorem dX7_begins_4 : decode cX7_begins 4 = .ok (.iload_n 1, 1) := by decide +kernel
theorem dX7_begins_5 : decode cX7_begins 5 = .ok (.iaload, 1) := by decide +kernel
theorem dX7_begins_6 : decode cX7_begins 6 = .ok (.istore_n 2, 1) := by decide +kernel
theorem dX7_begins_7 : decode cX7_begins 7 = .ok (.iload_n 2, 1) := by decide +kernel
theorem dX7_begins_8 : decode cX7_begins 8 = .ok (.ifCond .eq 8, 3) := by decide +kernel
theorem dX7_begins_11 : decode cX7_begins 11 = .ok (.iload_n 2, 1) := by decide +kernel
theorem dX7_begins_12 : decode cX7_begins 12 = .ok (.iconst 4, 1) := by decide +kernel
theorem dX7_begins_13 : decode cX7_begins 13 = .ok (.if_icmp .ne 7, 3) := by decide +kernel
theorem dX7_begins_16 : decode cX7_begins 16 = .ok (.iconst 1, 1) := by decide +kernel
theorem dX7_begins_17 : decode cX7_begins 17 = .ok (.goto 4, 3) := by decide +kernel
theorem dX7_begins_20 : decode cX7_begins 20 = .ok (.iconst 0, 1) := by decide +kernel
theorem dX7_begins_21 : decode cX7_begins 21 = .ok (.istore_n 3, 1) := by decide +kernel
theorem dX7_begins_22 : decode cX7_begins 22 = .ok (.iconst 0, 1) := by decide +kernel
theorem dX7_begins_23 : decode cX7_begins 23 = .ok (.istore 4, 2) := by decide +kernel
theorem dX7_begins_25 : decode cX7_begins 25 = .ok (.iload 4, 2) := by decide +kernel
theorem dX7_begins_27 : decode cX7_begins 27 = .ok (.bipush 7, 2) := by decide +kernel
theorem dX7_begins_29 : decode cX7_begins 29 = .ok (.if_icmp .ge 52, 3) := by decide +kernel
theorem dX7_begins_32 : decode cX7_begins 32 = .ok (.aload_n 0, 1) := by decide +kernel
theorem dX7_begins_33 : decode cX7_begins 33 = .ok (.iload_n 1, 1) := by decide +kernel
theorem dX7_begins_34 : decode cX7_begins 34 = .ok (.iload 4, 2) := by decide +kernel
theorem dX7_begins_36 : decode cX7_begins 36 = .ok (.iload_n 3, 1) := by decide +kernel
theorem dX7_begins_37 : decode cX7_begins 37 = .ok (.ifCond .eq 23, 3) := by decide +kernel
theorem dX7_begins_40 : decode cX7_begins 40 = .ok (.aload_n 0, 1) := by decide +kernel
theorem dX7_begins_41 : decode cX7_begins 41 = .ok (.getfield 7, 3) := by decide +kernel
theorem dX7_begins_44 : decode cX7_begins 44 = .ok (.bipush 7, 2) := by decide +kernel
theorem dX7_begins_46 : decode cX7_begins 46 = .ok (.aload_n 0, 1) := by decide +kernel
theorem dX7_begins_47 : decode cX7_begins 47 = .ok (.getfield 16, 3) := by decide +kernel
theorem dX7_begins_50 : decode cX7_begins 50 = .ok (.iload_n 1, 1) := by decide +kernel
theorem dX7_begins_51 : decode cX7_begins 51 = .ok (.iaload, 1) := by decide +kernel
theorem dX7_begins_52 : decode cX7_begins 52 = .ok (.imul, 1) := by decide +kernel
theorem dX7_begins_53 : decode cX7_begins 53 = .ok (.iload 4, 2) := by decide +kernel
theorem dX7_begins_55 : decode cX7_begins 55 = .ok (.iadd, 1) := by decide +kernel
theorem dX7_begins_56 : decode cX7_begins 56 = .ok (.iaload, 1) := by decide +kernel
theorem dX7_begins_57 : decode cX7_begins 57 = .ok (.goto 15, 3) := by decide +kernel
theorem dX7_begins_60 : decode cX7_begins 60 = .ok (.iload 4, 2) := by decide +kernel
theorem dX7_begins_62 : decode cX7_begins 62 = .ok (.bipush 6, 2) := by decide +kernel
theorem dX7_begins_64 : decode cX7_begins 64 = .ok (.if_icmp .ne 7, 3) := by decide +kernel
theorem dX7_begins_67 : decode cX7_begins 67 = .ok (.iconst (-1), 1) := by decide +kernel
theorem dX7_begins_68 : decode cX7_begins 68 = .ok (.goto 4, 3) := by decide +kernel
theorem dX7_begins_71 : decode cX7_begins 71 = .ok (.iconst 0, 1) := by decide +kernel
theorem dX7_begins_72 : decode cX7_begins 72 = .ok (.invokevirtual 145, 3) := by decide +kernel
theorem dX7_begins_75 : decode cX7_begins 75 = .ok (.iinc 4 1, 3) := by decide +kernel
theorem dX7_begins_78 : decode cX7_begins 78 = .ok (.goto (-53), 3) := by decide +kernel
theorem dX7_begins_81 : decode cX7_begins 81 = .ok (.iload_n 2, 1) := by decide +kernel
theorem dX7_begins_82 : decode cX7_begins 82 = .ok (.iconst 4, 1) := by decide +kernel
theorem dX7_begins_83 : decode cX7_begins 83 = .ok (.if_icmp .ne 36, 3) := by decide +kernel
theorem dX7_begins_86 : decode cX7_begins 86 = .ok (.aload_n 0, 1) := by decide +kernel
theorem dX7_begins_87 : decode cX7_begins 87 = .ok (.iload_n 1, 1) := by decide +kernel
theorem dX7_begins_88 : decode cX7_begins 88 = .ok (.iconst 1, 1) := by decide +kernel
theorem dX7_begins_89 : decode cX7_begins 89 = .ok (.aload_n 0, 1) := by decide +kernel
theorem dX7_begins_90 : decode cX7_begins 90 = .ok (.getfield 19, 3) := by decide +kernel
theorem dX7_begins_93 : decode cX7_begins 93 = .ok (.iload_n 1, 1) := by decide +kernel
theorem dX7_begins_94 : decode cX7_begins 94 = .ok (.iaload, 1) := by decide +kernel
theorem dX7_begins_95 : decode cX7_begins 95 = .ok (.invokestatic 149, 3) := by decide +kernel
theorem dX7_begins_98 : decode cX7_begins 98 = .ok (.invokevirtual 145, 3) := by decide +kernel
theorem dX7_begins_101 : decode cX7_begins 101 = .ok (.aload_n 0, 1) := by decide +kernel
theorem dX7_begins_102 : decode cX7_begins 102 = .ok (.iload_n 1, 1) := by decide +kernel
theorem dX7_begins_103 : decode cX7_begins 103 = .ok (.iconst 2, 1) := by decide +kernel
theorem dX7_begins_104 : decode cX7_begins 104 = .ok (.aload_n 0, 1) := by decide +kernel
theorem dX7_begins_105 : decode cX7_begins 105 = .ok (.getfield 22, 3) := by decide +kernel
theorem dX7_begins_108 : decode cX7_begins 108 = .ok (.iload_n 1, 1) := by decide +kernel
theorem dX7_begins_109 : decode cX7_begins 109 = .ok (.iaload, 1) := by decide +kernel
theorem dX7_begins_110 : decode cX7_begins 110 = .ok (.invokestatic 149, 3) := by decide +kernel
theorem dX7_begins_113 : decode cX7_begins 113 = .ok (.invokevirtual 145, 3) := by decide +kernel
theorem dX7_begins_116 : decode cX7_begins 116 = .ok (.goto 111, 3) := by decide +kernel
theorem dX7_begins_119 : decode cX7_begins 119 = .ok (.iload_n 2, 1) := by decide +kernel
theorem dX7_begins_120 : decode cX7_begins 120 = .ok (.iconst 5, 1) := by decide +kernel
theorem dX7_begins_121 : decode cX7_begins 121 = .ok (.if_icmp .ne 65, 3) := by decide +kernel
theorem dX7_begins_124 : decode cX7_begins 124 = .ok (.aload_n 0, 1) := by decide +kernel
theorem dX7_begins_125 : decode cX7_begins 125 = .ok (.iload_n 1, 1) := by decide +kernel
theorem dX7_begins_126 : decode cX7_begins 126 = .ok (.iconst 0, 1) := by decide +kernel
theorem dX7_begins_127 : decode cX7_begins 127 = .ok (.aload_n 0, 1) := by decide +kernel
theorem dX7_begins_128 : decode cX7_begins 128 = .ok (.getfield 16, 3) := by decide +kernel
theorem dX7_begins_131 : decode cX7_begins 131 = .ok (.iload_n 1, 1) := by decide +kernel
theorem dX7_begins_132 : decode cX7_begins 132 = .ok (.iaload, 1) := by decide +kernel
theorem dX7_begins_133 : decode cX7_begins 133 = .ok (.bipush 8, 2) := by decide +kernel
theorem dX7_begins_135 : decode cX7_begins 135 = .ok (.irem, 1) := by decide +kernel
theorem dX7_begins_136 : decode cX7_begins 136 = .ok (.invokevirtual 145, 3) := by decide +kernel
theorem dX7_begins_139 : decode cX7_begins 139 = .ok (.aload_n 0, 1) := by decide +kernel
theorem dX7_begins_140 : decode cX7_begins 140 = .ok (.iload_n 1, 1) := by decide +kernel
theorem dX7_begins_141 : decode cX7_begins 141 = .ok (.iconst 1, 1) := by decide +kernel
theorem dX7_begins_142 : decode cX7_begins 142 = .ok (.iconst 4, 1) := by decide +kernel
theorem dX7_begins_143 : decode cX7_begins 143 = .ok (.invokevirtual 145, 3) := by decide +kernel
theorem dX7_begins_146 : decode cX7_begins 146 = .ok (.aload_n 0, 1) := by decide +kernel
theorem dX7_begins_147 : decode cX7_begins 147 = .ok (.iload_n 1, 1) := by decide +kernel
theorem dX7_begins_148 : decode cX7_begins 148 = .ok (.iconst 2, 1) := by decide +kernel
theorem dX7_begins_149 : decode cX7_begins 149 = .ok (.iconst 4, 1) := by decide +kernel
theorem dX7_begins_150 : decode cX7_begins 150 = .ok (.invokevirtual 145, 3) := by decide +kernel
theorem dX7_begins_153 : decode cX7_begins 153 = .ok (.aload_n 0, 1) := by decide +kernel
theorem dX7_begins_154 : decode cX7_begins 154 = .ok (.iload_n 1, 1) := by decide +kernel
theorem dX7_begins_155 : decode cX7_begins 155 = .ok (.iconst 3, 1) := by decide +kernel
theorem dX7_begins_156 : decode cX7_begins 156 = .ok (.aload_n 0, 1) := by decide +kernel
theorem dX7_begins_157 : decode cX7_begins 157 = .ok (.getfield 16, 3) := by decide +kernel
theorem dX7_begins_160 : decode cX7_begins 160 = .ok (.iload_n 1, 1) := by decide +kernel
theorem dX7_begins_161 : decode cX7_begins 161 = .ok (.iaload, 1) := by decide +kernel
theorem dX7_begins_162 : decode cX7_begins 162 = .ok (.bipush 8, 2) := by decide +kernel
theorem dX7_begins_164 : decode cX7_begins 164 = .ok (.idiv, 1) := by decide +kernel
theorem dX7_begins_165 : decode cX7_begins 165 = .ok (.invokevirtual 145, 3) := by decide +kernel
theorem dX7_begins_168 : decode cX7_begins 168 = .ok (.aload_n 0, 1) := by decide +kernel
theorem dX7_begins_169 : decode cX7_begins 169 = .ok (.iload_n 1, 1) := by decide +kernel
theorem dX7_begins_170 : decode cX7_begins 170 = .ok (.iconst 4, 1) := by decide +kernel
theorem dX7_begins_171 : decode cX7_begins 171 = .ok (.aload_n 0, 1) := by decide +kernel
theorem dX7_begins_172 : decode cX7_begins 172 = .ok (.getfield 16, 3) := by decide +kernel
theorem dX7_begins_175 : decode cX7_begins 175 = .ok (.iload_n 1, 1) := by decide +kernel
theorem dX7_begins_176 : decode cX7_begins 176 = .ok (.iaload, 1) := by decide +kernel
theorem dX7_begins_177 : decode cX7_begins 177 = .ok (.bipush 8, 2) := by decide +kernel
theorem dX7_begins_179 : decode cX7_begins 179 = .ok (.idiv, 1) := by decide +kernel
theorem dX7_begins_180 : decode cX7_begins 180 = .ok (.invokevirtual 145, 3) := by decide +kernel
theorem dX7_begins_183 : decode cX7_begins 183 = .ok (.goto 44, 3) := by decide +kernel
theorem dX7_begins_186 : decode cX7_begins 186 = .ok (.iload_n 2, 1) := by decide +kernel
theorem dX7_begins_187 : decode cX7_begins 187 = .ok (.ifCond .eq 40, 3) := by decide +kernel
theorem dX7_begins_190 : decode cX7_begins 190 = .ok (.aload_n 0, 1) := by decide +kernel
theorem dX7_begins_191 : decode cX7_begins 191 = .ok (.iload_n 1, 1) := by decide +kernel
theorem dX7_begins_192 : decode cX7_begins 192 = .ok (.iconst 0, 1) := by decide +kernel
theorem dX7_begins_193 : decode cX7_begins 193 = .ok (.iconst 1, 1) := by decide +kernel
theorem dX7_begins_194 : decode cX7_begins 194 = .ok (.invokevirtual 145, 3) := by decide +kernel
theorem dX7_begins_197 : decode cX7_begins 197 = .ok (.aload_n 0, 1) := by decide +kernel
theorem dX7_begins_198 : decode cX7_begins 198 = .ok (.iload_n 1, 1) := by decide +kernel
theorem dX7_begins_199 : decode cX7_begins 199 = .ok (.iconst 1, 1) := by decide +kernel
theorem dX7_begins_200 : decode cX7_begins 200 = .ok (.aload_n 0, 1) := by decide +kernel
theorem dX7_begins_201 : decode cX7_begins 201 = .ok (.getfield 16, 3) := by decide +kernel
theorem dX7_begins_204 : decode cX7_begins 204 = .ok (.iload_n 1, 1) := by decide +kernel
theorem dX7_begins_205 : decode cX7_begins 205 = .ok (.iaload, 1) := by decide +kernel
theorem dX7_begins_206 : decode cX7_begins 206 = .ok (.invokestatic 149, 3) := by decide +kernel
theorem dX7_begins_209 : decode cX7_begins 209 = .ok (.invokevirtual 145, 3) := by decide +kernel
theorem dX7_begins_212 : decode cX7_begins 212 = .ok (.aload_n 0, 1) := by decide +kernel
theorem dX7_begins_213 : decode cX7_begins 213 = .ok (.iload_n 1, 1) := by decide +kernel
theorem dX7_begins_214 : decode cX7_begins 214 = .ok (.iconst 2, 1) := by decide +kernel
theorem dX7_begins_215 : decode cX7_begins 215 = .ok (.aload_n 0, 1) := by decide +kernel
theorem dX7_begins_216 : decode cX7_begins 216 = .ok (.getfield 16, 3) := by decide +kernel
theorem dX7_begins_219 : decode cX7_begins 219 = .ok (.iload_n 1, 1) := by decide +kernel
theorem dX7_begins_220 : decode cX7_begins 220 = .ok (.iaload, 1) := by decide +kernel
theorem dX7_begins_221 : decode cX7_begins 221 = .ok (.invokestatic 149, 3) := by decide +kernel
theorem dX7_begins_224 : decode cX7_begins 224 = .ok (.invokevirtual 145, 3) := by decide +kernel
theorem dX7_begins_227 : decode cX7_begins 227 = .ok (.return_, 1) := by decide +kernel
theorem dX7_isExcepted_0 : decode cX7_isExcepted 0 = .ok (.aload_n 0, 1) := by decide +kernel
theorem dX7_isExcepted_1 : decode cX7_isExcepted 1 = .ok (.getfield 13, 3) := by decide +kernel
theorem dX7_isExcepted_4 : decode cX7_isExcepted 4 = .ok (.iload_n 2, 1) := by decide +kernel
theorem dX7_isExcepted_5 : decode cX7_isExcepted 5 = .ok (.iaload, 1) := by decide +kernel
theorem dX7_isExcepted_6 : decode cX7_isExcepted 6 = .ok (.ifCond .eq 13, 3) := by decide +kernel
theorem dX7_isExcepted_9 : decode cX7_isExcepted 9 = .ok (.aload_n 0, 1) := by decide +kernel
theorem dX7_isExcepted_10 : decode cX7_isExcepted 10 = .ok (.getfield 13, 3) := by decide +kernel
theorem dX7_isExcepted_13 : decode cX7_isExcepted 13 = .ok (.iload_n 2, 1) := by decide +kernel
theorem dX7_isExcepted_14 : decode cX7_isExcepted 14 = .ok (.iaload, 1) := by decide +kernel
theorem dX7_isExcepted_15 : decode cX7_isExcepted 15 = .ok (.iconst 4, 1) := by decide +kernel
theorem dX7_isExcepted_16 : decode cX7_isExcepted 16 = .ok (.if_icmp .ne 7, 3) := by decide +kernel
theorem dX7_isExcepted_19 : decode cX7_isExcepted 19 = .ok (.iconst 1, 1) := by decide +kernel
theorem dX7_isExcepted_20 : decode cX7_isExcepted 20 = .ok (.goto 4, 3) := by decide +kernel
theorem dX7_isExcepted_23 : decode cX7_isExcepted 23 = .ok (.iconst 0, 1) := by decide +kernel
theorem dX7_isExcepted_24 : decode cX7_isExcepted 24 = .ok (.istore_n 3, 1) := by decide +kernel
theorem dX7_isExcepted_25 : decode cX7_isExcepted 25 = .ok (.iload_n 3, 1) := by decide +kernel
theorem dX7_isExcepted_26 : decode cX7_isExcepted 26 = .ok (.ifCond .eq 26, 3) := by decide +kernel
theorem dX7_isExcepted_29 : decode cX7_isExcepted 29 = .ok (.aload_n 0, 1) := by decide +kernel
theorem dX7_isExcepted_30 : decode cX7_isExcepted 30 = .ok (.getfield 40, 3) := by decide +kernel
theorem dX7_isExcepted_33 : decode cX7_isExcepted 33 = .ok (.iload_n 1, 1) := by decide +kernel
theorem dX7_isExcepted_34 : decode cX7_isExcepted 34 = .ok (.iaload, 1) := by decide +kernel
theorem dX7_isExcepted_35 : decode cX7_isExcepted 35 = .ok (.aload_n 0, 1) := by decide +kernel
theorem dX7_isExcepted_36 : decode cX7_isExcepted 36 = .ok (.getfield 16, 3) := by decide +kernel
theorem dX7_isExcepted_39 : decode cX7_isExcepted 39 = .ok (.iload_n 2, 1) := by decide +kernel
theorem dX7_isExcepted_40 : decode cX7_isExcepted 40 = .ok (.iaload, 1) := by decide +kernel
theorem dX7_isExcepted_41 : decode cX7_isExcepted 41 = .ok (.ishr, 1) := by decide +kernel
theorem dX7_isExcepted_42 : decode cX7_isExcepted 42 = .ok (.iconst 1, 1) := by decide +kernel
theorem dX7_isExcepted_43 : decode cX7_isExcepted 43 = .ok (.iand, 1) := by decide +kernel
theorem dX7_isExcepted_44 : decode cX7_isExcepted 44 = .ok (.iconst 1, 1) := by decide +kernel
theorem dX7_isExcepted_45 : decode cX7_isExcepted 45 = .ok (.if_icmp .ne 7, 3) := by decide +kernel
theorem dX7_isExcepted_48 : decode cX7_isExcepted 48 = .ok (.iconst 1, 1) := by decide +kernel
theorem dX7_isExcepted_49 : decode cX7_isExcepted 49 = .ok (.goto 4, 3) := by decide +kernel
theorem dX7_isExcepted_52 : decode cX7_isExcepted 52 = .ok (.iconst 0, 1) := by decide +kernel
theorem dX7_isExcepted_53 : decode cX7_isExcepted 53 = .ok (.ireturn, 1) := by decide +kernel
theorem dX7_isBare_0 : decode cX7_isBare 0 = .ok (.aload_n 0, 1) := by decide +kernel
theorem dX7_isBare_1 : decode cX7_isBare 1 = .ok (.iload_n 1, 1) := by decide +kernel
theorem dX7_isBare_2 : decode cX7_isBare 2 = .ok (.invokevirtual 127, 3) := by decide +kernel
theorem dX7_isBare_5 : decode cX7_isBare 5 = .ok (.ifCond .eq 12, 3) := by decide +kernel
theorem dX7_isBare_8 : decode cX7_isBare 8 = .ok (.aload_n 0, 1) := by decide +kernel
theorem dX7_isBare_9 : decode cX7_isBare 9 = .ok (.iload_n 1, 1) := by decide +kernel
theorem dX7_isBare_10 : decode cX7_isBare 10 = .ok (.iconst 5, 1) := by decide +kernel
theorem dX7_isBare_11 : decode cX7_isBare 11 = .ok (.invokevirtual 152, 3) := by decide +kernel
theorem dX7_isBare_14 : decode cX7_isBare 14 = .ok (.ifCond .ne 7, 3) := by decide +kernel
theorem dX7_isBare_17 : decode cX7_isBare 17 = .ok (.iconst 1, 1) := by decide +kernel
theorem dX7_isBare_18 : decode cX7_isBare 18 = .ok (.goto 4, 3) := by decide +kernel
theorem dX7_isBare_21 : decode cX7_isBare 21 = .ok (.iconst 0, 1) := by decide +kernel
theorem dX7_isBare_22 : decode cX7_isBare 22 = .ok (.ireturn, 1) := by decide +kernel
theorem dX7_changes_0 : decode cX7_changes 0 = .ok (.iload_n 1, 1) := by decide +kernel
theorem dX7_changes_1 : decode cX7_changes 1 = .ok (.ifCond .ne 43, 3) := by decide +kernel
theorem dX7_changes_4 : decode cX7_changes 4 = .ok (.aload_n 0, 1) := by decide +kernel
theorem dX7_changes_5 : decode cX7_changes 5 = .ok (.iload_n 2, 1) := by decide +kernel
theorem dX7_changes_6 : decode cX7_changes 6 = .ok (.iconst 5, 1) := by decide +kernel
theorem dX7_changes_7 : decode cX7_changes 7 = .ok (.invokevirtual 152, 3) := by decide +kernel
theorem dX7_changes_10 : decode cX7_changes 10 = .ok (.iconst 1, 1) := by decide +kernel
theorem dX7_changes_11 : decode cX7_changes 11 = .ok (.if_icmp .ne 33, 3) := by decide +kernel
theorem dX7_changes_14 : decode cX7_changes 14 = .ok (.aload_n 0, 1) := by decide +kernel
theorem dX7_changes_15 : decode cX7_changes 15 = .ok (.iload_n 2, 1) := by decide +kernel
theorem dX7_changes_16 : decode cX7_changes 16 = .ok (.iconst 1, 1) := by decide +kernel
theorem dX7_changes_17 : decode cX7_changes 17 = .ok (.isub, 1) := by decide +kernel
theorem dX7_changes_18 : decode cX7_changes 18 = .ok (.invokevirtual 155, 3) := by decide +kernel
theorem dX7_changes_21 : decode cX7_changes 21 = .ok (.ifCond .eq 23, 3) := by decide +kernel
theorem dX7_changes_24 : decode cX7_changes 24 = .ok (.aload_n 0, 1) := by decide +kernel
theorem dX7_changes_25 : decode cX7_changes 25 = .ok (.iload_n 2, 1) := by decide +kernel
theorem dX7_changes_26 : decode cX7_changes 26 = .ok (.iconst 1, 1) := by decide +kernel
theorem dX7_changes_27 : decode cX7_changes 27 = .ok (.iadd, 1) := by decide +kernel
theorem dX7_changes_28 : decode cX7_changes 28 = .ok (.invokevirtual 155, 3) := by decide +kernel
theorem dX7_changes_31 : decode cX7_changes 31 = .ok (.ifCond .eq 13, 3) := by decide +kernel
theorem dX7_changes_34 : decode cX7_changes 34 = .ok (.aload_n 0, 1) := by decide +kernel
theorem dX7_changes_35 : decode cX7_changes 35 = .ok (.iload_n 2, 1) := by decide +kernel
theorem dX7_changes_36 : decode cX7_changes 36 = .ok (.iconst 5, 1) := by decide +kernel
theorem dX7_changes_37 : decode cX7_changes 37 = .ok (.iconst 0, 1) := by decide +kernel
theorem dX7_changes_38 : decode cX7_changes 38 = .ok (.invokevirtual 145, 3) := by decide +kernel
theorem dX7_changes_41 : decode cX7_changes 41 = .ok (.goto 252, 3) := by decide +kernel
theorem dX7_changes_44 : decode cX7_changes 44 = .ok (.iload_n 1, 1) := by decide +kernel
theorem dX7_changes_45 : decode cX7_changes 45 = .ok (.iconst 1, 1) := by decide +kernel
theorem dX7_changes_46 : decode cX7_changes 46 = .ok (.if_icmp .ne 52, 3) := by decide +kernel
theorem dX7_changes_49 : decode cX7_changes 49 = .ok (.aload_n 0, 1) := by decide +kernel
theorem dX7_changes_50 : decode cX7_changes 50 = .ok (.iload_n 2, 1) := by decide +kernel
theorem dX7_changes_51 : decode cX7_changes 51 = .ok (.invokevirtual 136, 3) := by decide +kernel
theorem dX7_changes_54 : decode cX7_changes 54 = .ok (.ifCond .eq 44, 3) := by decide +kernel
theorem dX7_changes_57 : decode cX7_changes 57 = .ok (.aload_n 0, 1) := by decide +kernel
theorem dX7_changes_58 : decode cX7_changes 58 = .ok (.getfield 93, 3) := by decide +kernel
theorem dX7_changes_61 : decode cX7_changes 61 = .ok (.iconst 1, 1) := by decide +kernel
theorem dX7_changes_62 : decode cX7_changes 62 = .ok (.if_icmp .le 36, 3) := by decide +kernel
theorem dX7_changes_65 : decode cX7_changes 65 = .ok (.aload_n 0, 1) := by decide +kernel
theorem dX7_changes_66 : decode cX7_changes 66 = .ok (.iload_n 2, 1) := by decide +kernel
theorem dX7_changes_67 : decode cX7_changes 67 = .ok (.iconst 0, 1) := by decide +kernel
theorem dX7_changes_68 : decode cX7_changes 68 = .ok (.aload_n 0, 1) := by decide +kernel
theorem dX7_changes_69 : decode cX7_changes 69 = .ok (.iload_n 2, 1) := by decide +kernel
theorem dX7_changes_70 : decode cX7_changes 70 = .ok (.aload_n 0, 1) := by decide +kernel
theorem dX7_changes_71 : decode cX7_changes 71 = .ok (.getfield 93, 3) := by decide +kernel
theorem dX7_changes_74 : decode cX7_changes 74 = .ok (.iconst 1, 1) := by decide +kernel
theorem dX7_changes_75 : decode cX7_changes 75 = .ok (.isub, 1) := by decide +kernel
theorem dX7_changes_76 : decode cX7_changes 76 = .ok (.if_icmp .ge 9, 3) := by decide +kernel
theorem dX7_changes_79 : decode cX7_changes 79 = .ok (.iload_n 2, 1) := by decide +kernel
theorem dX7_changes_80 : decode cX7_changes 80 = .ok (.iconst 1, 1) := by decide +kernel
theorem dX7_changes_81 : decode cX7_changes 81 = .ok (.iadd, 1) := by decide +kernel
theorem dX7_changes_82 : decode cX7_changes 82 = .ok (.goto 6, 3) := by decide +kernel
theorem dX7_changes_85 : decode cX7_changes 85 = .ok (.iload_n 2, 1) := by decide +kernel
theorem dX7_changes_86 : decode cX7_changes 86 = .ok (.iconst 1, 1) := by decide +kernel
theorem dX7_changes_87 : decode cX7_changes 87 = .ok (.isub, 1) := by decide +kernel
theorem dX7_changes_88 : decode cX7_changes 88 = .ok (.iconst 0, 1) := by decide +kernel
theorem dX7_changes_89 : decode cX7_changes 89 = .ok (.invokevirtual 152, 3) := by decide +kernel
theorem dX7_changes_92 : decode cX7_changes 92 = .ok (.invokevirtual 145, 3) := by decide +kernel
theorem dX7_changes_95 : decode cX7_changes 95 = .ok (.goto 198, 3) := by decide +kernel
theorem dX7_changes_98 : decode cX7_changes 98 = .ok (.iload_n 1, 1) := by decide +kernel
theorem dX7_changes_99 : decode cX7_changes 99 = .ok (.iconst 2, 1) := by decide +kernel
theorem dX7_changes_100 : decode cX7_changes 100 = .ok (.if_icmp .ne 46, 3) := by decide +kernel
theorem dX7_changes_103 : decode cX7_changes 103 = .ok (.iload_n 2, 1) := by decide +kernel
theorem dX7_changes_104 : decode cX7_changes 104 = .ok (.ifCond .le 42, 3) := by decide +kernel
theorem dX7_changes_107 : decode cX7_changes 107 = .ok (.aload_n 0, 1) := by decide +kernel
theorem dX7_changes_108 : decode cX7_changes 108 = .ok (.iload_n 2, 1) := by decide +kernel
theorem dX7_changes_109 : decode cX7_changes 109 = .ok (.iconst 1, 1) := by decide +kernel
theorem dX7_changes_110 : decode cX7_changes 110 = .ok (.isub, 1) := by decide +kernel
theorem dX7_changes_111 : decode cX7_changes 111 = .ok (.iconst 4, 1) := by decide +kernel
theorem dX7_changes_112 : decode cX7_changes 112 = .ok (.invokevirtual 152, 3) := by decide +kernel
theorem dX7_changes_115 : decode cX7_changes 115 = .ok (.aload_n 0, 1) := by decide +kernel
theorem dX7_changes_116 : decode cX7_changes 116 = .ok (.iload_n 2, 1) := by decide +kernel
theorem dX7_changes_117 : decode cX7_changes 117 = .ok (.iconst 3, 1) := by decide +kernel
theorem dX7_changes_118 : decode cX7_changes 118 = .ok (.invokevirtual 152, 3) := by decide +kernel
theorem dX7_changes_121 : decode cX7_changes 121 = .ok (.isub, 1) := by decide +kernel
theorem dX7_changes_122 : decode cX7_changes 122 = .ok (.invokestatic 82, 3) := by decide +kernel
theorem dX7_changes_125 : decode cX7_changes 125 = .ok (.iconst 2, 1) := by decide +kernel
theorem dX7_changes_126 : decode cX7_changes 126 = .ok (.if_icmp .ne 20, 3) := by decide +kernel
theorem dX7_changes_129 : decode cX7_changes 129 = .ok (.aload_n 0, 1) := by decide +kernel
theorem dX7_changes_130 : decode cX7_changes 130 = .ok (.iload_n 2, 1) := by decide +kernel
theorem dX7_changes_131 : decode cX7_changes 131 = .ok (.iconst 3, 1) := by decide +kernel
theorem dX7_changes_132 : decode cX7_changes 132 = .ok (.aload_n 0, 1) := by decide +kernel
theorem dX7_changes_133 : decode cX7_changes 133 = .ok (.iload_n 2, 1) := by decide +kernel
theorem dX7_changes_134 : decode cX7_changes 134 = .ok (.iconst 1, 1) := by decide +kernel
theorem dX7_changes_135 : decode cX7_changes 135 = .ok (.isub, 1) := by decide +kernel
theorem dX7_changes_136 : decode cX7_changes 136 = .ok (.iconst 4, 1) := by decide +kernel
theorem dX7_changes_137 : decode cX7_changes 137 = .ok (.invokevirtual 152, 3) := by decide +kernel
theorem dX7_changes_140 : decode cX7_changes 140 = .ok (.invokevirtual 145, 3) := by decide +kernel
theorem dX7_changes_143 : decode cX7_changes 143 = .ok (.goto 150, 3) := by decide +kernel
theorem dX7_changes_146 : decode cX7_changes 146 = .ok (.iload_n 1, 1) := by decide +kernel
theorem dX7_changes_147 : decode cX7_changes 147 = .ok (.iconst 3, 1) := by decide +kernel
theorem dX7_changes_148 : decode cX7_changes 148 = .ok (.if_icmp .ne 90, 3) := by decide +kernel
theorem dX7_changes_151 : decode cX7_changes 151 = .ok (.iload_n 2, 1) := by decide +kernel
theorem dX7_changes_152 : decode cX7_changes 152 = .ok (.ifCond .le 86, 3) := by decide +kernel
theorem dX7_changes_155 : decode cX7_changes 155 = .ok (.aload_n 0, 1) := by decide +kernel
theorem dX7_changes_156 : decode cX7_changes 156 = .ok (.getfield 13, 3) := by decide +kernel
theorem dX7_changes_159 : decode cX7_changes 159 = .ok (.iload_n 2, 1) := by decide +kernel
theorem dX7_changes_160 : decode cX7_changes 160 = .ok (.iaload, 1) := by decide +kernel
theorem dX7_changes_161 : decode cX7_changes 161 = .ok (.ifCond .ne 77, 3) := by decide +kernel
theorem dX7_changes_164 : decode cX7_changes 164 = .ok (.aload_n 0, 1) := by decide +kernel
theorem dX7_changes_165 : decode cX7_changes 165 = .ok (.iload_n 2, 1) := by decide +kernel
theorem dX7_changes_166 : decode cX7_changes 166 = .ok (.iconst 1, 1) := by decide +kernel
theorem dX7_changes_167 : decode cX7_changes 167 = .ok (.invokevirtual 152, 3) := by decide +kernel
theorem dX7_changes_170 : decode cX7_changes 170 = .ok (.aload_n 0, 1) := by decide +kernel
theorem dX7_changes_171 : decode cX7_changes 171 = .ok (.iload_n 2, 1) := by decide +kernel
theorem dX7_changes_172 : decode cX7_changes 172 = .ok (.iconst 2, 1) := by decide +kernel
theorem dX7_changes_173 : decode cX7_changes 173 = .ok (.invokevirtual 152, 3) := by decide +kernel
theorem dX7_changes_176 : decode cX7_changes 176 = .ok (.if_icmp .eq 62, 3) := by decide +kernel
theorem dX7_changes_179 : decode cX7_changes 179 = .ok (.aload_n 0, 1) := by decide +kernel
theorem dX7_changes_180 : decode cX7_changes 180 = .ok (.iload_n 2, 1) := by decide +kernel
theorem dX7_changes_181 : decode cX7_changes 181 = .ok (.iconst 1, 1) := by decide +kernel
theorem dX7_changes_182 : decode cX7_changes 182 = .ok (.invokevirtual 152, 3) := by decide +kernel
theorem dX7_changes_185 : decode cX7_changes 185 = .ok (.istore_n 3, 1) := by decide +kernel
theorem dX7_changes_186 : decode cX7_changes 186 = .ok (.aload_n 0, 1) := by decide +kernel
theorem dX7_changes_187 : decode cX7_changes 187 = .ok (.iload_n 2, 1) := by decide +kernel
theorem dX7_changes_188 : decode cX7_changes 188 = .ok (.iconst 2, 1) := by decide +kernel
theorem dX7_changes_189 : decode cX7_changes 189 = .ok (.invokevirtual 152, 3) := by decide +kernel
theorem dX7_changes_192 : decode cX7_changes 192 = .ok (.istore 4, 2) := by decide +kernel
theorem dX7_changes_194 : decode cX7_changes 194 = .ok (.aload_n 0, 1) := by decide +kernel
theorem dX7_changes_195 : decode cX7_changes 195 = .ok (.iload_n 2, 1) := by decide +kernel
theorem dX7_changes_196 : decode cX7_changes 196 = .ok (.iconst 1, 1) := by decide +kernel
theorem dX7_changes_197 : decode cX7_changes 197 = .ok (.isub, 1) := by decide +kernel
theorem dX7_changes_198 : decode cX7_changes 198 = .ok (.iconst 2, 1) := by decide +kernel
theorem dX7_changes_199 : decode cX7_changes 199 = .ok (.invokevirtual 152, 3) := by decide +kernel
theorem dX7_changes_202 : decode cX7_changes 202 = .ok (.istore 5, 2) := by decide +kernel
theorem dX7_changes_204 : decode cX7_changes 204 = .ok (.iload 5, 2) := by decide +kernel
theorem dX7_changes_206 : decode cX7_changes 206 = .ok (.iload 4, 2) := by decide +kernel
theorem dX7_changes_208 : decode cX7_changes 208 = .ok (.invokestatic 158, 3) := by decide +kernel
theorem dX7_changes_211 : decode cX7_changes 211 = .ok (.iload 5, 2) := by decide +kernel
theorem dX7_changes_213 : decode cX7_changes 213 = .ok (.iload_n 3, 1) := by decide +kernel
theorem dX7_changes_214 : decode cX7_changes 214 = .ok (.invokestatic 158, 3) := by decide +kernel
theorem dX7_changes_217 : decode cX7_changes 217 = .ok (.if_icmp .ge 18, 3) := by decide +kernel
theorem dX7_changes_220 : decode cX7_changes 220 = .ok (.aload_n 0, 1) := by decide +kernel
theorem dX7_changes_221 : decode cX7_changes 221 = .ok (.iload_n 2, 1) := by decide +kernel
theorem dX7_changes_222 : decode cX7_changes 222 = .ok (.iconst 1, 1) := by decide +kernel
theorem dX7_changes_223 : decode cX7_changes 223 = .ok (.iload 4, 2) := by decide +kernel
theorem dX7_changes_225 : decode cX7_changes 225 = .ok (.invokevirtual 145, 3) := by decide +kernel
theorem dX7_changes_228 : decode cX7_changes 228 = .ok (.aload_n 0, 1) := by decide +kernel
theorem dX7_changes_229 : decode cX7_changes 229 = .ok (.iload_n 2, 1) := by decide +kernel
theorem dX7_changes_230 : decode cX7_changes 230 = .ok (.iconst 2, 1) := by decide +kernel
theorem dX7_changes_231 : decode cX7_changes 231 = .ok (.iload_n 3, 1) := by decide +kernel
theorem dX7_changes_232 : decode cX7_changes 232 = .ok (.invokevirtual 145, 3) := by decide +kernel
theorem dX7_changes_235 : decode cX7_changes 235 = .ok (.goto 58, 3) := by decide +kernel
theorem dX7_changes_238 : decode cX7_changes 238 = .ok (.iload_n 1, 1) := by decide +kernel
theorem dX7_changes_239 : decode cX7_changes 239 = .ok (.iconst 4, 1) := by decide +kernel
theorem dX7_changes_240 : decode cX7_changes 240 = .ok (.if_icmp .ne 53, 3) := by decide +kernel
theorem dX7_changes_243 : decode cX7_changes 243 = .ok (.iload_n 2, 1) := by decide +kernel
theorem dX7_changes_244 : decode cX7_changes 244 = .ok (.ifCond .le 49, 3) := by decide +kernel
theorem dX7_changes_247 : decode cX7_changes 247 = .ok (.aload_n 0, 1) := by decide +kernel
theorem dX7_changes_248 : decode cX7_changes 248 = .ok (.getfield 13, 3) := by decide +kernel
theorem dX7_changes_251 : decode cX7_changes 251 = .ok (.iload_n 2, 1) := by decide +kernel
theorem dX7_changes_252 : decode cX7_changes 252 = .ok (.iaload, 1) := by decide +kernel
theorem dX7_changes_253 : decode cX7_changes 253 = .ok (.iconst 5, 1) := by decide +kernel
theorem dX7_changes_254 : decode cX7_changes 254 = .ok (.if_icmp .ne 39, 3) := by decide +kernel
theorem dX7_changes_257 : decode cX7_changes 257 = .ok (.aload_n 0, 1) := by decide +kernel
theorem dX7_changes_258 : decode cX7_changes 258 = .ok (.getfield 13, 3) := by decide +kernel
theorem dX7_changes_261 : decode cX7_changes 261 = .ok (.iload_n 2, 1) := by decide +kernel
theorem dX7_changes_262 : decode cX7_changes 262 = .ok (.iconst 1, 1) := by decide +kernel
theorem dX7_changes_263 : decode cX7_changes 263 = .ok (.isub, 1) := by decide +kernel
theorem dX7_changes_264 : decode cX7_changes 264 = .ok (.iaload, 1) := by decide +kernel
theorem dX7_changes_265 : decode cX7_changes 265 = .ok (.iconst 5, 1) := by decide +kernel
theorem dX7_changes_266 : decode cX7_changes 266 = .ok (.if_icmp .ne 27, 3) := by decide +kernel
theorem dX7_changes_269 : decode cX7_changes 269 = .ok (.aload_n 0, 1) := by decide +kernel
theorem dX7_changes_270 : decode cX7_changes 270 = .ok (.getfield 16, 3) := by decide +kernel
theorem dX7_changes_273 : decode cX7_changes 273 = .ok (.iload_n 2, 1) := by decide +kernel
theorem dX7_changes_274 : decode cX7_changes 274 = .ok (.iaload, 1) := by decide +kernel
theorem dX7_changes_275 : decode cX7_changes 275 = .ok (.aload_n 0, 1) := by decide +kernel
theorem dX7_changes_276 : decode cX7_changes 276 = .ok (.getfield 16, 3) := by decide +kernel
theorem dX7_changes_279 : decode cX7_changes 279 = .ok (.iload_n 2, 1) := by decide +kernel
theorem dX7_changes_280 : decode cX7_changes 280 = .ok (.iconst 1, 1) := by decide +kernel
theorem dX7_changes_281 : decode cX7_changes 281 = .ok (.isub, 1) := by decide +kernel
theorem dX7_changes_282 : decode cX7_changes 282 = .ok (.iaload, 1) := by decide +kernel
theorem dX7_changes_283 : decode cX7_changes 283 = .ok (.if_icmp .ne 10, 3) := by decide +kernel
theorem dX7_changes_286 : decode cX7_changes 286 = .ok (.aload_n 0, 1) := by decide +kernel
theorem dX7_changes_287 : decode cX7_changes 287 = .ok (.iload_n 2, 1) := by decide +kernel
theorem dX7_changes_288 : decode cX7_changes 288 = .ok (.iconst 2, 1) := by decide +kernel
theorem dX7_changes_289 : decode cX7_changes 289 = .ok (.iconst 5, 1) := by decide +kernel
theorem dX7_changes_290 : decode cX7_changes 290 = .ok (.invokevirtual 145, 3) := by decide +kernel
theorem dX7_changes_293 : decode cX7_changes 293 = .ok (.return_, 1) := by decide +kernel
theorem dX7_rulesGo_0 : decode cX7_rulesGo 0 = .ok (.iconst 0, 1) := by decide +kernel
theorem dX7_rulesGo_1 : decode cX7_rulesGo 1 = .ok (.istore_n 1, 1) := by decide +kernel
theorem dX7_rulesGo_2 : decode cX7_rulesGo 2 = .ok (.iload_n 1, 1) := by decide +kernel
theorem dX7_rulesGo_3 : decode cX7_rulesGo 3 = .ok (.aload_n 0, 1) := by decide +kernel
theorem dX7_rulesGo_4 : decode cX7_rulesGo 4 = .ok (.getfield 93, 3) := by decide +kernel
theorem dX7_rulesGo_7 : decode cX7_rulesGo 7 = .ok (.if_icmp .ge 14, 3) := by decide +kernel
theorem dX7_rulesGo_10 : decode cX7_rulesGo 10 = .ok (.aload_n 0, 1) := by decide +kernel
theorem dX7_rulesGo_11 : decode cX7_rulesGo 11 = .ok (.iload_n 1, 1) := by decide +kernel
theorem dX7_rulesGo_12 : decode cX7_rulesGo 12 = .ok (.invokevirtual 161, 3) := by decide +kernel
theorem dX7_rulesGo_15 : decode cX7_rulesGo 15 = .ok (.iinc 1 1, 3) := by decide +kernel
theorem dX7_rulesGo_18 : decode cX7_rulesGo 18 = .ok (.goto (-16), 3) := by decide +kernel
theorem dX7_rulesGo_21 : decode cX7_rulesGo 21 = .ok (.iconst 0, 1) := by decide +kernel
theorem dX7_rulesGo_22 : decode cX7_rulesGo 22 = .ok (.istore_n 1, 1) := by decide +kernel
theorem dX7_rulesGo_23 : decode cX7_rulesGo 23 = .ok (.iload_n 1, 1) := by decide +kernel
theorem dX7_rulesGo_24 : decode cX7_rulesGo 24 = .ok (.aload_n 0, 1) := by decide +kernel
theorem dX7_rulesGo_25 : decode cX7_rulesGo 25 = .ok (.getfield 142, 3) := by decide +kernel
theorem dX7_rulesGo_28 : decode cX7_rulesGo 28 = .ok (.if_icmp .ge 45, 3) := by decide +kernel
theorem dX7_rulesGo_31 : decode cX7_rulesGo 31 = .ok (.iconst 0, 1) := by decide +kernel
theorem dX7_rulesGo_32 : decode cX7_rulesGo 32 = .ok (.istore_n 2, 1) := by decide +kernel
theorem dX7_rulesGo_33 : decode cX7_rulesGo 33 = .ok (.iload_n 2, 1) := by decide +kernel
theorem dX7_rulesGo_34 : decode cX7_rulesGo 34 = .ok (.aload_n 0, 1) := by decide +kernel
theorem dX7_rulesGo_35 : decode cX7_rulesGo 35 = .ok (.getfield 93, 3) := by decide +kernel
theorem dX7_rulesGo_38 : decode cX7_rulesGo 38 = .ok (.if_icmp .ge 29, 3) := by decide +kernel
theorem dX7_rulesGo_41 : decode cX7_rulesGo 41 = .ok (.aload_n 0, 1) := by decide +kernel
theorem dX7_rulesGo_42 : decode cX7_rulesGo 42 = .ok (.iload_n 1, 1) := by decide +kernel
theorem dX7_rulesGo_43 : decode cX7_rulesGo 43 = .ok (.iload_n 2, 1) := by decide +kernel
theorem dX7_rulesGo_44 : decode cX7_rulesGo 44 = .ok (.invokevirtual 165, 3) := by decide +kernel
theorem dX7_rulesGo_47 : decode cX7_rulesGo 47 = .ok (.ifCond .ne 14, 3) := by decide +kernel
theorem dX7_rulesGo_50 : decode cX7_rulesGo 50 = .ok (.aload_n 0, 1) := by decide +kernel
theorem dX7_rulesGo_51 : decode cX7_rulesGo 51 = .ok (.aload_n 0, 1) := by decide +kernel
theorem dX7_rulesGo_52 : decode cX7_rulesGo 52 = .ok (.getfield 37, 3) := by decide +kernel
theorem dX7_rulesGo_55 : decode cX7_rulesGo 55 = .ok (.iload_n 1, 1) := by decide +kernel
theorem dX7_rulesGo_56 : decode cX7_rulesGo 56 = .ok (.iaload, 1) := by decide +kernel
theorem dX7_rulesGo_57 : decode cX7_rulesGo 57 = .ok (.iload_n 2, 1) := by decide +kernel
theorem dX7_rulesGo_58 : decode cX7_rulesGo 58 = .ok (.invokevirtual 168, 3) := by decide +kernel
theorem dX7_rulesGo_61 : decode cX7_rulesGo 61 = .ok (.iinc 2 1, 3) := by decide +kernel
theorem dX7_rulesGo_64 : decode cX7_rulesGo 64 = .ok (.goto (-31), 3) := by decide +kernel
theorem dX7_rulesGo_67 : decode cX7_rulesGo 67 = .ok (.iinc 1 1, 3) := by decide +kernel
theorem dX7_rulesGo_70 : decode cX7_rulesGo 70 = .ok (.goto (-47), 3) := by decide +kernel
theorem dX7_rulesGo_73 : decode cX7_rulesGo 73 = .ok (.return_, 1) := by decide +kernel
theorem dX7_moves_0 : decode cX7_moves 0 = .ok (.aload_n 0, 1) := by decide +kernel
theorem dX7_moves_1 : decode cX7_moves 1 = .ok (.iload_n 1, 1) := by decide +kernel
theorem dX7_moves_2 : decode cX7_moves 2 = .ok (.iconst 1, 1) := by decide +kernel
theorem dX7_moves_3 : decode cX7_moves 3 = .ok (.invokevirtual 152, 3) := by decide +kernel
theorem dX7_moves_6 : decode cX7_moves 6 = .ok (.aload_n 0, 1) := by decide +kernel
theorem dX7_moves_7 : decode cX7_moves 7 = .ok (.iload_n 1, 1) := by decide +kernel
theorem dX7_moves_8 : decode cX7_moves 8 = .ok (.iconst 2, 1) := by decide +kernel
theorem dX7_moves_9 : decode cX7_moves 9 = .ok (.invokevirtual 152, 3) := by decide +kernel
theorem dX7_moves_12 : decode cX7_moves 12 = .ok (.if_icmp .ne 18, 3) := by decide +kernel
theorem dX7_moves_15 : decode cX7_moves 15 = .ok (.aload_n 0, 1) := by decide +kernel
theorem dX7_moves_16 : decode cX7_moves 16 = .ok (.iload_n 1, 1) := by decide +kernel
theorem dX7_moves_17 : decode cX7_moves 17 = .ok (.iconst 3, 1) := by decide +kernel
theorem dX7_moves_18 : decode cX7_moves 18 = .ok (.invokevirtual 152, 3) := by decide +kernel
theorem dX7_moves_21 : decode cX7_moves 21 = .ok (.aload_n 0, 1) := by decide +kernel
theorem dX7_moves_22 : decode cX7_moves 22 = .ok (.iload_n 1, 1) := by decide +kernel
theorem dX7_moves_23 : decode cX7_moves 23 = .ok (.iconst 4, 1) := by decide +kernel
theorem dX7_moves_24 : decode cX7_moves 24 = .ok (.invokevirtual 152, 3) := by decide +kernel
theorem dX7_moves_27 : decode cX7_moves 27 = .ok (.if_icmp .eq 7, 3) := by decide +kernel
theorem dX7_moves_30 : decode cX7_moves 30 = .ok (.iconst 1, 1) := by decide +kernel
theorem dX7_moves_31 : decode cX7_moves 31 = .ok (.goto 4, 3) := by decide +kernel
theorem dX7_moves_34 : decode cX7_moves 34 = .ok (.iconst 0, 1) := by decide +kernel
theorem dX7_moves_35 : decode cX7_moves 35 = .ok (.ireturn, 1) := by decide +kernel
theorem dX7_least_0 : decode cX7_least 0 = .ok (.iload_n 0, 1) := by decide +kernel
theorem dX7_least_1 : decode cX7_least 1 = .ok (.iconst 1, 1) := by decide +kernel
theorem dX7_least_2 : decode cX7_least 2 = .ok (.if_icmp .ge 7, 3) := by decide +kernel
theorem dX7_least_5 : decode cX7_least 5 = .ok (.iconst 1, 1) := by decide +kernel
theorem dX7_least_6 : decode cX7_least 6 = .ok (.goto 4, 3) := by decide +kernel
theorem dX7_least_9 : decode cX7_least 9 = .ok (.iload_n 0, 1) := by decide +kernel
theorem dX7_least_10 : decode cX7_least 10 = .ok (.ireturn, 1) := by decide +kernel
theorem dX7_takes_0 : decode cX7_takes 0 = .ok (.aload_n 0, 1) := by decide +kernel
theorem dX7_takes_1 : decode cX7_takes 1 = .ok (.iload_n 1, 1) := by decide +kernel
theorem dX7_takes_2 : decode cX7_takes 2 = .ok (.invokevirtual 172, 3) := by decide +kernel
theorem dX7_takes_5 : decode cX7_takes 5 = .ok (.ifCond .eq 26, 3) := by decide +kernel
theorem dX7_takes_8 : decode cX7_takes 8 = .ok (.iconst 4, 1) := by decide +kernel
theorem dX7_takes_9 : decode cX7_takes 9 = .ok (.aload_n 0, 1) := by decide +kernel
theorem dX7_takes_10 : decode cX7_takes 10 = .ok (.iload_n 1, 1) := by decide +kernel
theorem dX7_takes_11 : decode cX7_takes 11 = .ok (.iconst 1, 1) := by decide +kernel
theorem dX7_takes_12 : decode cX7_takes 12 = .ok (.invokevirtual 152, 3) := by decide +kernel
theorem dX7_takes_15 : decode cX7_takes 15 = .ok (.aload_n 0, 1) := by decide +kernel
theorem dX7_takes_16 : decode cX7_takes 16 = .ok (.iload_n 1, 1) := by decide +kernel
theorem dX7_takes_17 : decode cX7_takes 17 = .ok (.iconst 2, 1) := by decide +kernel
theorem dX7_takes_18 : decode cX7_takes 18 = .ok (.invokevirtual 152, 3) := by decide +kernel
theorem dX7_takes_21 : decode cX7_takes 21 = .ok (.invokestatic 158, 3) := by decide +kernel
theorem dX7_takes_24 : decode cX7_takes 24 = .ok (.invokestatic 175, 3) := by decide +kernel
theorem dX7_takes_27 : decode cX7_takes 27 = .ok (.iadd, 1) := by decide +kernel
theorem dX7_takes_28 : decode cX7_takes 28 = .ok (.goto 4, 3) := by decide +kernel
theorem dX7_takes_31 : decode cX7_takes 31 = .ok (.iconst 3, 1) := by decide +kernel
theorem dX7_takes_32 : decode cX7_takes 32 = .ok (.ireturn, 1) := by decide +kernel
theorem dX7_passes_0 : decode cX7_passes 0 = .ok (.iload_n 1, 1) := by decide +kernel
theorem dX7_passes_1 : decode cX7_passes 1 = .ok (.ifCond .ne 5, 3) := by decide +kernel
theorem dX7_passes_4 : decode cX7_passes 4 = .ok (.iconst 0, 1) := by decide +kernel
theorem dX7_passes_5 : decode cX7_passes 5 = .ok (.ireturn, 1) := by decide +kernel
theorem dX7_passes_6 : decode cX7_passes 6 = .ok (.aload_n 0, 1) := by decide +kernel
theorem dX7_passes_7 : decode cX7_passes 7 = .ok (.iload_n 1, 1) := by decide +kernel
theorem dX7_passes_8 : decode cX7_passes 8 = .ok (.iconst 1, 1) := by decide +kernel
theorem dX7_passes_9 : decode cX7_passes 9 = .ok (.isub, 1) := by decide +kernel
theorem dX7_passes_10 : decode cX7_passes 10 = .ok (.iconst 0, 1) := by decide +kernel
theorem dX7_passes_11 : decode cX7_passes 11 = .ok (.invokevirtual 152, 3) := by decide +kernel
theorem dX7_passes_14 : decode cX7_passes 14 = .ok (.aload_n 0, 1) := by decide +kernel
theorem dX7_passes_15 : decode cX7_passes 15 = .ok (.iload_n 1, 1) := by decide +kernel
theorem dX7_passes_16 : decode cX7_passes 16 = .ok (.iconst 0, 1) := by decide +kernel
theorem dX7_passes_17 : decode cX7_passes 17 = .ok (.invokevirtual 152, 3) := by decide +kernel
theorem dX7_passes_20 : decode cX7_passes 20 = .ok (.if_icmp .ne 41, 3) := by decide +kernel
theorem dX7_passes_23 : decode cX7_passes 23 = .ok (.aload_n 0, 1) := by decide +kernel
theorem dX7_passes_24 : decode cX7_passes 24 = .ok (.iload_n 1, 1) := by decide +kernel
theorem dX7_passes_25 : decode cX7_passes 25 = .ok (.iconst 1, 1) := by decide +kernel
theorem dX7_passes_26 : decode cX7_passes 26 = .ok (.isub, 1) := by decide +kernel
theorem dX7_passes_27 : decode cX7_passes 27 = .ok (.iconst 2, 1) := by decide +kernel
theorem dX7_passes_28 : decode cX7_passes 28 = .ok (.invokevirtual 152, 3) := by decide +kernel
theorem dX7_passes_31 : decode cX7_passes 31 = .ok (.aload_n 0, 1) := by decide +kernel
theorem dX7_passes_32 : decode cX7_passes 32 = .ok (.iload_n 1, 1) := by decide +kernel
theorem dX7_passes_33 : decode cX7_passes 33 = .ok (.iconst 1, 1) := by decide +kernel
theorem dX7_passes_34 : decode cX7_passes 34 = .ok (.invokevirtual 152, 3) := by decide +kernel
theorem dX7_passes_37 : decode cX7_passes 37 = .ok (.if_icmp .ne 24, 3) := by decide +kernel
theorem dX7_passes_40 : decode cX7_passes 40 = .ok (.aload_n 0, 1) := by decide +kernel
theorem dX7_passes_41 : decode cX7_passes 41 = .ok (.iload_n 1, 1) := by decide +kernel
theorem dX7_passes_42 : decode cX7_passes 42 = .ok (.iconst 1, 1) := by decide +kernel
theorem dX7_passes_43 : decode cX7_passes 43 = .ok (.isub, 1) := by decide +kernel
theorem dX7_passes_44 : decode cX7_passes 44 = .ok (.iconst 4, 1) := by decide +kernel
theorem dX7_passes_45 : decode cX7_passes 45 = .ok (.invokevirtual 152, 3) := by decide +kernel
theorem dX7_passes_48 : decode cX7_passes 48 = .ok (.aload_n 0, 1) := by decide +kernel
theorem dX7_passes_49 : decode cX7_passes 49 = .ok (.iload_n 1, 1) := by decide +kernel
theorem dX7_passes_50 : decode cX7_passes 50 = .ok (.iconst 3, 1) := by decide +kernel
theorem dX7_passes_51 : decode cX7_passes 51 = .ok (.invokevirtual 152, 3) := by decide +kernel
theorem dX7_passes_54 : decode cX7_passes 54 = .ok (.if_icmp .ne 7, 3) := by decide +kernel
theorem dX7_passes_57 : decode cX7_passes 57 = .ok (.iconst 1, 1) := by decide +kernel
theorem dX7_passes_58 : decode cX7_passes 58 = .ok (.goto 4, 3) := by decide +kernel
theorem dX7_passes_61 : decode cX7_passes 61 = .ok (.iconst 0, 1) := by decide +kernel
theorem dX7_passes_62 : decode cX7_passes 62 = .ok (.istore_n 2, 1) := by decide +kernel
theorem dX7_passes_63 : decode cX7_passes 63 = .ok (.iload_n 2, 1) := by decide +kernel
theorem dX7_passes_64 : decode cX7_passes 64 = .ok (.ifCond .eq 7, 3) := by decide +kernel
theorem dX7_passes_67 : decode cX7_passes 67 = .ok (.iconst 0, 1) := by decide +kernel
theorem dX7_passes_68 : decode cX7_passes 68 = .ok (.goto 23, 3) := by decide +kernel
theorem dX7_passes_71 : decode cX7_passes 71 = .ok (.aload_n 0, 1) := by decide +kernel
theorem dX7_passes_72 : decode cX7_passes 72 = .ok (.iload_n 1, 1) := by decide +kernel
theorem dX7_passes_73 : decode cX7_passes 73 = .ok (.iconst 1, 1) := by decide +kernel
theorem dX7_passes_74 : decode cX7_passes 74 = .ok (.isub, 1) := by decide +kernel
theorem dX7_passes_75 : decode cX7_passes 75 = .ok (.iconst 2, 1) := by decide +kernel
theorem dX7_passes_76 : decode cX7_passes 76 = .ok (.invokevirtual 152, 3) := by decide +kernel
theorem dX7_passes_79 : decode cX7_passes 79 = .ok (.aload_n 0, 1) := by decide +kernel
theorem dX7_passes_80 : decode cX7_passes 80 = .ok (.iload_n 1, 1) := by decide +kernel
theorem dX7_passes_81 : decode cX7_passes 81 = .ok (.iconst 1, 1) := by decide +kernel
theorem dX7_passes_82 : decode cX7_passes 82 = .ok (.invokevirtual 152, 3) := by decide +kernel
theorem dX7_passes_85 : decode cX7_passes 85 = .ok (.invokestatic 158, 3) := by decide +kernel
theorem dX7_passes_88 : decode cX7_passes 88 = .ok (.invokestatic 175, 3) := by decide +kernel
theorem dX7_passes_91 : decode cX7_passes 91 = .ok (.ireturn, 1) := by decide +kernel
theorem dX7_beginning_0 : decode cX7_beginning 0 = .ok (.iconst 0, 1) := by decide +kernel
theorem dX7_beginning_1 : decode cX7_beginning 1 = .ok (.istore_n 2, 1) := by decide +kernel
theorem dX7_beginning_2 : decode cX7_beginning 2 = .ok (.iconst 0, 1) := by decide +kernel
theorem dX7_beginning_3 : decode cX7_beginning 3 = .ok (.istore_n 3, 1) := by decide +kernel
theorem dX7_beginning_4 : decode cX7_beginning 4 = .ok (.iload_n 3, 1) := by decide +kernel
theorem dX7_beginning_5 : decode cX7_beginning 5 = .ok (.iload_n 1, 1) := by decide +kernel
theorem dX7_beginning_6 : decode cX7_beginning 6 = .ok (.if_icmp .ge 23, 3) := by decide +kernel
theorem dX7_beginning_9 : decode cX7_beginning 9 = .ok (.iload_n 2, 1) := by decide +kernel
theorem dX7_beginning_10 : decode cX7_beginning 10 = .ok (.aload_n 0, 1) := by decide +kernel
theorem dX7_beginning_11 : decode cX7_beginning 11 = .ok (.iload_n 3, 1) := by decide +kernel
theorem dX7_beginning_12 : decode cX7_beginning 12 = .ok (.invokevirtual 178, 3) := by decide +kernel
theorem dX7_beginning_15 : decode cX7_beginning 15 = .ok (.aload_n 0, 1) := by decide +kernel
theorem dX7_beginning_16 : decode cX7_beginning 16 = .ok (.iload_n 3, 1) := by decide +kernel
theorem dX7_beginning_17 : decode cX7_beginning 17 = .ok (.invokevirtual 181, 3) := by decide +kernel
theorem dX7_beginning_20 : decode cX7_beginning 20 = .ok (.iadd, 1) := by decide +kernel
theorem dX7_beginning_21 : decode cX7_beginning 21 = .ok (.iadd, 1) := by decide +kernel
theorem dX7_beginning_22 : decode cX7_beginning 22 = .ok (.istore_n 2, 1) := by decide +kernel
theorem dX7_beginning_23 : decode cX7_beginning 23 = .ok (.iinc 3 1, 3) := by decide +kernel
theorem dX7_beginning_26 : decode cX7_beginning 26 = .ok (.goto (-22), 3) := by decide +kernel
theorem dX7_beginning_29 : decode cX7_beginning 29 = .ok (.iload_n 2, 1) := by decide +kernel
theorem dX7_beginning_30 : decode cX7_beginning 30 = .ok (.ireturn, 1) := by decide +kernel
theorem dX7_signed_0 : decode cX7_signed 0 = .ok (.aload_n 0, 1) := by decide +kernel
theorem dX7_signed_1 : decode cX7_signed 1 = .ok (.aload_n 0, 1) := by decide +kernel
theorem dX7_signed_2 : decode cX7_signed 2 = .ok (.iload_n 1, 1) := by decide +kernel
theorem dX7_signed_3 : decode cX7_signed 3 = .ok (.invokevirtual 127, 3) := by decide +kernel
theorem dX7_signed_6 : decode cX7_signed 6 = .ok (.ifCond .ne 7, 3) := by decide +kernel
theorem dX7_signed_9 : decode cX7_signed 9 = .ok (.iconst 1, 1) := by decide +kernel
theorem dX7_signed_10 : decode cX7_signed 10 = .ok (.goto 18, 3) := by decide +kernel
theorem dX7_signed_13 : decode cX7_signed 13 = .ok (.iload_n 2, 1) := by decide +kernel
theorem dX7_signed_14 : decode cX7_signed 14 = .ok (.iconst 0, 1) := by decide +kernel
theorem dX7_signed_15 : decode cX7_signed 15 = .ok (.bipush 8, 2) := by decide +kernel
theorem dX7_signed_17 : decode cX7_signed 17 = .ok (.invokestatic 89, 3) := by decide +kernel
theorem dX7_signed_20 : decode cX7_signed 20 = .ok (.ifCond .ne 7, 3) := by decide +kernel
theorem dX7_signed_23 : decode cX7_signed 23 = .ok (.iconst 2, 1) := by decide +kernel
theorem dX7_signed_24 : decode cX7_signed 24 = .ok (.goto 4, 3) := by decide +kernel
theorem dX7_signed_27 : decode cX7_signed 27 = .ok (.iconst 0, 1) := by decide +kernel
theorem dX7_signed_28 : decode cX7_signed 28 = .ok (.putfield 78, 3) := by decide +kernel
theorem dX7_signed_31 : decode cX7_signed 31 = .ok (.aload_n 0, 1) := by decide +kernel
theorem dX7_signed_32 : decode cX7_signed 32 = .ok (.getfield 78, 3) := by decide +kernel
theorem dX7_signed_35 : decode cX7_signed 35 = .ok (.ifCond .le 5, 3) := by decide +kernel
theorem dX7_signed_38 : decode cX7_signed 38 = .ok (.iconst 0, 1) := by decide +kernel
theorem dX7_signed_39 : decode cX7_signed 39 = .ok (.ireturn, 1) := by decide +kernel
theorem dX7_signed_40 : decode cX7_signed 40 = .ok (.aload_n 0, 1) := by decide +kernel
theorem dX7_signed_41 : decode cX7_signed 41 = .ok (.invokevirtual 184, 3) := by decide +kernel
theorem dX7_signed_44 : decode cX7_signed 44 = .ok (.iload_n 2, 1) := by decide +kernel
theorem dX7_signed_45 : decode cX7_signed 45 = .ok (.bipush 6, 2) := by decide +kernel
theorem dX7_signed_47 : decode cX7_signed 47 = .ok (.if_icmp .ge 10, 3) := by decide +kernel
theorem dX7_signed_50 : decode cX7_signed 50 = .ok (.aload_n 0, 1) := by decide +kernel
theorem dX7_signed_51 : decode cX7_signed 51 = .ok (.iload_n 1, 1) := by decide +kernel
theorem dX7_signed_52 : decode cX7_signed 52 = .ok (.iload_n 2, 1) := by decide +kernel
theorem dX7_signed_53 : decode cX7_signed 53 = .ok (.invokevirtual 152, 3) := by decide +kernel
theorem dX7_signed_56 : decode cX7_signed 56 = .ok (.ireturn, 1) := by decide +kernel
theorem dX7_signed_57 : decode cX7_signed 57 = .ok (.aload_n 0, 1) := by decide +kernel
theorem dX7_signed_58 : decode cX7_signed 58 = .ok (.iload_n 1, 1) := by decide +kernel
theorem dX7_signed_59 : decode cX7_signed 59 = .ok (.invokevirtual 187, 3) := by decide +kernel
theorem dX7_signed_62 : decode cX7_signed 62 = .ok (.istore_n 3, 1) := by decide +kernel
theorem dX7_signed_63 : decode cX7_signed 63 = .ok (.iload_n 2, 1) := by decide +kernel
theorem dX7_signed_64 : decode cX7_signed 64 = .ok (.bipush 6, 2) := by decide +kernel
theorem dX7_signed_66 : decode cX7_signed 66 = .ok (.if_icmp .ne 7, 3) := by decide +kernel
theorem dX7_signed_69 : decode cX7_signed 69 = .ok (.iload_n 3, 1) := by decide +kernel
theorem dX7_signed_70 : decode cX7_signed 70 = .ok (.goto 32, 3) := by decide +kernel
theorem dX7_signed_73 : decode cX7_signed 73 = .ok (.iload_n 2, 1) := by decide +kernel
theorem dX7_signed_74 : decode cX7_signed 74 = .ok (.bipush 7, 2) := by decide +kernel
theorem dX7_signed_76 : decode cX7_signed 76 = .ok (.if_icmp .ne 13, 3) := by decide +kernel
theorem dX7_signed_79 : decode cX7_signed 79 = .ok (.iload_n 3, 1) := by decide +kernel
theorem dX7_signed_80 : decode cX7_signed 80 = .ok (.aload_n 0, 1) := by decide +kernel
theorem dX7_signed_81 : decode cX7_signed 81 = .ok (.iload_n 1, 1) := by decide +kernel
theorem dX7_signed_82 : decode cX7_signed 82 = .ok (.invokevirtual 178, 3) := by decide +kernel
theorem dX7_signed_85 : decode cX7_signed 85 = .ok (.iadd, 1) := by decide +kernel
theorem dX7_signed_86 : decode cX7_signed 86 = .ok (.goto 16, 3) := by decide +kernel
theorem dX7_signed_89 : decode cX7_signed 89 = .ok (.iload_n 3, 1) := by decide +kernel
theorem dX7_signed_90 : decode cX7_signed 90 = .ok (.aload_n 0, 1) := by decide +kernel
theorem dX7_signed_91 : decode cX7_signed 91 = .ok (.iload_n 1, 1) := by decide +kernel
theorem dX7_signed_92 : decode cX7_signed 92 = .ok (.invokevirtual 178, 3) := by decide +kernel
theorem dX7_signed_95 : decode cX7_signed 95 = .ok (.iadd, 1) := by decide +kernel
theorem dX7_signed_96 : decode cX7_signed 96 = .ok (.aload_n 0, 1) := by decide +kernel
theorem dX7_signed_97 : decode cX7_signed 97 = .ok (.iload_n 1, 1) := by decide +kernel
theorem dX7_signed_98 : decode cX7_signed 98 = .ok (.invokevirtual 181, 3) := by decide +kernel
theorem dX7_signed_101 : decode cX7_signed 101 = .ok (.iadd, 1) := by decide +kernel
theorem dX7_signed_102 : decode cX7_signed 102 = .ok (.ireturn, 1) := by decide +kernel
theorem dX7_along_0 : decode cX7_along 0 = .ok (.iload_n 0, 1) := by decide +kernel
theorem dX7_along_1 : decode cX7_along 1 = .ok (.iconst 3, 1) := by decide +kernel
theorem dX7_along_2 : decode cX7_along 2 = .ok (.idiv, 1) := by decide +kernel
theorem dX7_along_3 : decode cX7_along 3 = .ok (.istore_n 3, 1) := by decide +kernel
theorem dX7_along_4 : decode cX7_along 4 = .ok (.iload_n 0, 1) := by decide +kernel
theorem dX7_along_5 : decode cX7_along 5 = .ok (.iconst 3, 1) := by decide +kernel
theorem dX7_along_6 : decode cX7_along 6 = .ok (.irem, 1) := by decide +kernel
theorem dX7_along_7 : decode cX7_along 7 = .ok (.istore 4, 2) := by decide +kernel
theorem dX7_along_9 : decode cX7_along 9 = .ok (.iconst 0, 1) := by decide +kernel
theorem dX7_along_10 : decode cX7_along 10 = .ok (.istore 5, 2) := by decide +kernel
theorem dX7_along_12 : decode cX7_along 12 = .ok (.iload 5, 2) := by decide +kernel
theorem dX7_along_14 : decode cX7_along 14 = .ok (.iload_n 2, 1) := by decide +kernel
theorem dX7_along_15 : decode cX7_along 15 = .ok (.if_icmp .ge 60, 3) := by decide +kernel
theorem dX7_along_18 : decode cX7_along 18 = .ok (.iload 4, 2) := by decide +kernel
theorem dX7_along_20 : decode cX7_along 20 = .ok (.iload_n 1, 1) := by decide +kernel
theorem dX7_along_21 : decode cX7_along 21 = .ok (.iconst 3, 1) := by decide +kernel
theorem dX7_along_22 : decode cX7_along 22 = .ok (.irem, 1) := by decide +kernel
theorem dX7_along_23 : decode cX7_along 23 = .ok (.if_icmp .eq 24, 3) := by decide +kernel
theorem dX7_along_26 : decode cX7_along 26 = .ok (.iload 4, 2) := by decide +kernel
theorem dX7_along_28 : decode cX7_along 28 = .ok (.iload 4, 2) := by decide +kernel
theorem dX7_along_30 : decode cX7_along 30 = .ok (.iload_n 1, 1) := by decide +kernel
theorem dX7_along_31 : decode cX7_along 31 = .ok (.iconst 3, 1) := by decide +kernel
theorem dX7_along_32 : decode cX7_along 32 = .ok (.irem, 1) := by decide +kernel
theorem dX7_along_33 : decode cX7_along 33 = .ok (.if_icmp .ge 7, 3) := by decide +kernel
theorem dX7_along_36 : decode cX7_along 36 = .ok (.iconst 1, 1) := by decide +kernel
theorem dX7_along_37 : decode cX7_along 37 = .ok (.goto 4, 3) := by decide +kernel
theorem dX7_along_40 : decode cX7_along 40 = .ok (.iconst (-1), 1) := by decide +kernel
theorem dX7_along_41 : decode cX7_along 41 = .ok (.iadd, 1) := by decide +kernel
theorem dX7_along_42 : decode cX7_along 42 = .ok (.istore 4, 2) := by decide +kernel
theorem dX7_along_44 : decode cX7_along 44 = .ok (.goto 25, 3) := by decide +kernel
theorem dX7_along_47 : decode cX7_along 47 = .ok (.iload_n 3, 1) := by decide +kernel
theorem dX7_along_48 : decode cX7_along 48 = .ok (.iload_n 1, 1) := by decide +kernel
theorem dX7_along_49 : decode cX7_along 49 = .ok (.iconst 3, 1) := by decide +kernel
theorem dX7_along_50 : decode cX7_along 50 = .ok (.idiv, 1) := by decide +kernel
theorem dX7_along_51 : decode cX7_along 51 = .ok (.if_icmp .eq 18, 3) := by decide +kernel
theorem dX7_along_54 : decode cX7_along 54 = .ok (.iload_n 3, 1) := by decide +kernel
theorem dX7_along_55 : decode cX7_along 55 = .ok (.iload_n 3, 1) := by decide +kernel
theorem dX7_along_56 : decode cX7_along 56 = .ok (.iload_n 1, 1) := by decide +kernel
theorem dX7_along_57 : decode cX7_along 57 = .ok (.iconst 3, 1) := by decide +kernel
theorem dX7_along_58 : decode cX7_along 58 = .ok (.idiv, 1) := by decide +kernel
theorem dX7_along_59 : decode cX7_along 59 = .ok (.if_icmp .ge 7, 3) := by decide +kernel
theorem dX7_along_62 : decode cX7_along 62 = .ok (.iconst 1, 1) := by decide +kernel
theorem dX7_along_63 : decode cX7_along 63 = .ok (.goto 4, 3) := by decide +kernel
theorem dX7_along_66 : decode cX7_along 66 = .ok (.iconst (-1), 1) := by decide +kernel
theorem dX7_along_67 : decode cX7_along 67 = .ok (.iadd, 1) := by decide +kernel
theorem dX7_along_68 : decode cX7_along 68 = .ok (.istore_n 3, 1) := by decide +kernel
theorem dX7_along_69 : decode cX7_along 69 = .ok (.iinc 5 1, 3) := by decide +kernel
theorem dX7_along_72 : decode cX7_along 72 = .ok (.goto (-60), 3) := by decide +kernel
theorem dX7_along_75 : decode cX7_along 75 = .ok (.iconst 3, 1) := by decide +kernel
theorem dX7_along_76 : decode cX7_along 76 = .ok (.iload_n 3, 1) := by decide +kernel
theorem dX7_along_77 : decode cX7_along 77 = .ok (.imul, 1) := by decide +kernel
theorem dX7_along_78 : decode cX7_along 78 = .ok (.iload 4, 2) := by decide +kernel
theorem dX7_along_80 : decode cX7_along 80 = .ok (.iadd, 1) := by decide +kernel
theorem dX7_along_81 : decode cX7_along 81 = .ok (.ireturn, 1) := by decide +kernel
theorem dX7_at_0 : decode cX7_at 0 = .ok (.aload_n 0, 1) := by decide +kernel
theorem dX7_at_1 : decode cX7_at 1 = .ok (.iload_n 1, 1) := by decide +kernel
theorem dX7_at_2 : decode cX7_at 2 = .ok (.ifCond .ge 7, 3) := by decide +kernel
theorem dX7_at_5 : decode cX7_at 5 = .ok (.iconst 1, 1) := by decide +kernel
theorem dX7_at_6 : decode cX7_at 6 = .ok (.goto 18, 3) := by decide +kernel
theorem dX7_at_9 : decode cX7_at 9 = .ok (.iload_n 2, 1) := by decide +kernel
theorem dX7_at_10 : decode cX7_at 10 = .ok (.iconst 0, 1) := by decide +kernel
theorem dX7_at_11 : decode cX7_at 11 = .ok (.bipush 7, 2) := by decide +kernel
theorem dX7_at_13 : decode cX7_at 13 = .ok (.invokestatic 89, 3) := by decide +kernel
theorem dX7_at_16 : decode cX7_at 16 = .ok (.ifCond .ne 7, 3) := by decide +kernel
theorem dX7_at_19 : decode cX7_at 19 = .ok (.iconst 2, 1) := by decide +kernel
theorem dX7_at_20 : decode cX7_at 20 = .ok (.goto 4, 3) := by decide +kernel
theorem dX7_at_23 : decode cX7_at 23 = .ok (.iconst 0, 1) := by decide +kernel
theorem dX7_at_24 : decode cX7_at 24 = .ok (.putfield 78, 3) := by decide +kernel
theorem dX7_at_27 : decode cX7_at 27 = .ok (.aload_n 0, 1) := by decide +kernel
theorem dX7_at_28 : decode cX7_at 28 = .ok (.getfield 78, 3) := by decide +kernel
theorem dX7_at_31 : decode cX7_at 31 = .ok (.ifCond .le 5, 3) := by decide +kernel
theorem dX7_at_34 : decode cX7_at 34 = .ok (.iconst 0, 1) := by decide +kernel
theorem dX7_at_35 : decode cX7_at 35 = .ok (.ireturn, 1) := by decide +kernel
theorem dX7_at_36 : decode cX7_at 36 = .ok (.aload_n 0, 1) := by decide +kernel
theorem dX7_at_37 : decode cX7_at 37 = .ok (.invokevirtual 184, 3) := by decide +kernel
theorem dX7_at_40 : decode cX7_at 40 = .ok (.iconst 0, 1) := by decide +kernel
theorem dX7_at_41 : decode cX7_at 41 = .ok (.istore_n 3, 1) := by decide +kernel
theorem dX7_at_42 : decode cX7_at 42 = .ok (.iload_n 1, 1) := by decide +kernel
theorem dX7_at_43 : decode cX7_at 43 = .ok (.istore 4, 2) := by decide +kernel
theorem dX7_at_45 : decode cX7_at 45 = .ok (.iload_n 3, 1) := by decide +kernel
theorem dX7_at_46 : decode cX7_at 46 = .ok (.aload_n 0, 1) := by decide +kernel
theorem dX7_at_47 : decode cX7_at 47 = .ok (.getfield 93, 3) := by decide +kernel
theorem dX7_at_50 : decode cX7_at 50 = .ok (.if_icmp .ge 41, 3) := by decide +kernel
theorem dX7_at_53 : decode cX7_at 53 = .ok (.iload 4, 2) := by decide +kernel
theorem dX7_at_55 : decode cX7_at 55 = .ok (.aload_n 0, 1) := by decide +kernel
theorem dX7_at_56 : decode cX7_at 56 = .ok (.iload_n 3, 1) := by decide +kernel
theorem dX7_at_57 : decode cX7_at 57 = .ok (.invokevirtual 178, 3) := by decide +kernel
theorem dX7_at_60 : decode cX7_at 60 = .ok (.aload_n 0, 1) := by decide +kernel
theorem dX7_at_61 : decode cX7_at 61 = .ok (.iload_n 3, 1) := by decide +kernel
theorem dX7_at_62 : decode cX7_at 62 = .ok (.invokevirtual 181, 3) := by decide +kernel
theorem dX7_at_65 : decode cX7_at 65 = .ok (.iadd, 1) := by decide +kernel
theorem dX7_at_66 : decode cX7_at 66 = .ok (.if_icmp .lt 25, 3) := by decide +kernel
theorem dX7_at_69 : decode cX7_at 69 = .ok (.iload 4, 2) := by decide +kernel
theorem dX7_at_71 : decode cX7_at 71 = .ok (.aload_n 0, 1) := by decide +kernel
theorem dX7_at_72 : decode cX7_at 72 = .ok (.iload_n 3, 1) := by decide +kernel
theorem dX7_at_73 : decode cX7_at 73 = .ok (.invokevirtual 178, 3) := by decide +kernel
theorem dX7_at_76 : decode cX7_at 76 = .ok (.aload_n 0, 1) := by decide +kernel
theorem dX7_at_77 : decode cX7_at 77 = .ok (.iload_n 3, 1) := by decide +kernel
theorem dX7_at_78 : decode cX7_at 78 = .ok (.invokevirtual 181, 3) := by decide +kernel
theorem dX7_at_81 : decode cX7_at 81 = .ok (.iadd, 1) := by decide +kernel
theorem dX7_at_82 : decode cX7_at 82 = .ok (.isub, 1) := by decide +kernel
theorem dX7_at_83 : decode cX7_at 83 = .ok (.istore 4, 2) := by decide +kernel
theorem dX7_at_85 : decode cX7_at 85 = .ok (.iinc 3 1, 3) := by decide +kernel
theorem dX7_at_88 : decode cX7_at 88 = .ok (.goto (-43), 3) := by decide +kernel
theorem dX7_at_91 : decode cX7_at 91 = .ok (.iload_n 3, 1) := by decide +kernel
theorem dX7_at_92 : decode cX7_at 92 = .ok (.aload_n 0, 1) := by decide +kernel
theorem dX7_at_93 : decode cX7_at 93 = .ok (.getfield 93, 3) := by decide +kernel
theorem dX7_at_96 : decode cX7_at 96 = .ok (.if_icmp .ne 5, 3) := by decide +kernel
theorem dX7_at_99 : decode cX7_at 99 = .ok (.iconst (-1), 1) := by decide +kernel
theorem dX7_at_100 : decode cX7_at 100 = .ok (.ireturn, 1) := by decide +kernel
theorem dX7_at_101 : decode cX7_at 101 = .ok (.iload 4, 2) := by decide +kernel
theorem dX7_at_103 : decode cX7_at 103 = .ok (.aload_n 0, 1) := by decide +kernel
theorem dX7_at_104 : decode cX7_at 104 = .ok (.iload_n 3, 1) := by decide +kernel
theorem dX7_at_105 : decode cX7_at 105 = .ok (.invokevirtual 178, 3) := by decide +kernel
theorem dX7_at_108 : decode cX7_at 108 = .ok (.if_icmp .ge 7, 3) := by decide +kernel
theorem dX7_at_111 : decode cX7_at 111 = .ok (.iconst 1, 1) := by decide +kernel
theorem dX7_at_112 : decode cX7_at 112 = .ok (.goto 4, 3) := by decide +kernel
theorem dX7_at_115 : decode cX7_at 115 = .ok (.iconst 0, 1) := by decide +kernel
theorem dX7_at_116 : decode cX7_at 116 = .ok (.istore 5, 2) := by decide +kernel
theorem dX7_at_118 : decode cX7_at 118 = .ok (.iload_n 2, 1) := by decide +kernel
theorem dX7_at_119 : decode cX7_at 119 = .ok (.bipush 7, 2) := by decide +kernel
theorem dX7_at_121 : decode cX7_at 121 = .ok (.if_icmp .ne 5, 3) := by decide +kernel
theorem dX7_at_124 : decode cX7_at 124 = .ok (.iload_n 3, 1) := by decide +kernel
theorem dX7_at_125 : decode cX7_at 125 = .ok (.ireturn, 1) := by decide +kernel
theorem dX7_at_126 : decode cX7_at 126 = .ok (.iload_n 2, 1) := by decide +kernel
theorem dX7_at_127 : decode cX7_at 127 = .ok (.ifCond .ne 10, 3) := by decide +kernel
theorem dX7_at_130 : decode cX7_at 130 = .ok (.aload_n 0, 1) := by decide +kernel
theorem dX7_at_131 : decode cX7_at 131 = .ok (.iload_n 3, 1) := by decide +kernel
theorem dX7_at_132 : decode cX7_at 132 = .ok (.iconst 0, 1) := by decide +kernel
theorem dX7_at_133 : decode cX7_at 133 = .ok (.invokevirtual 152, 3) := by decide +kernel
theorem dX7_at_136 : decode cX7_at 136 = .ok (.ireturn, 1) := by decide +kernel
theorem dX7_at_137 : decode cX7_at 137 = .ok (.iload_n 2, 1) := by decide +kernel
theorem dX7_at_138 : decode cX7_at 138 = .ok (.iconst 3, 1) := by decide +kernel
theorem dX7_at_139 : decode cX7_at 139 = .ok (.if_icmp .le 12, 3) := by decide +kernel
theorem dX7_at_142 : decode cX7_at 142 = .ok (.aload_n 0, 1) := by decide +kernel
theorem dX7_at_143 : decode cX7_at 143 = .ok (.iload_n 3, 1) := by decide +kernel
theorem dX7_at_144 : decode cX7_at 144 = .ok (.iload_n 2, 1) := by decide +kernel
theorem dX7_at_145 : decode cX7_at 145 = .ok (.iconst 4, 1) := by decide +kernel
theorem dX7_at_146 : decode cX7_at 146 = .ok (.isub, 1) := by decide +kernel
theorem dX7_at_147 : decode cX7_at 147 = .ok (.invokevirtual 139, 3) := by decide +kernel
theorem dX7_at_150 : decode cX7_at 150 = .ok (.ireturn, 1) := by decide +kernel
theorem dX7_at_151 : decode cX7_at 151 = .ok (.iload_n 2, 1) := by decide +kernel
theorem dX7_at_152 : decode cX7_at 152 = .ok (.iconst 3, 1) := by decide +kernel
theorem dX7_at_153 : decode cX7_at 153 = .ok (.if_icmp .ne 19, 3) := by decide +kernel
theorem dX7_at_156 : decode cX7_at 156 = .ok (.iload 5, 2) := by decide +kernel
theorem dX7_at_158 : decode cX7_at 158 = .ok (.ifCond .eq 7, 3) := by decide +kernel
theorem dX7_at_161 : decode cX7_at 161 = .ok (.iconst 0, 1) := by decide +kernel
theorem dX7_at_162 : decode cX7_at 162 = .ok (.goto 9, 3) := by decide +kernel
theorem dX7_at_165 : decode cX7_at 165 = .ok (.aload_n 0, 1) := by decide +kernel
theorem dX7_at_166 : decode cX7_at 166 = .ok (.iload_n 3, 1) := by decide +kernel
theorem dX7_at_167 : decode cX7_at 167 = .ok (.iconst 5, 1) := by decide +kernel
theorem dX7_at_168 : decode cX7_at 168 = .ok (.invokevirtual 152, 3) := by decide +kernel
theorem dX7_at_171 : decode cX7_at 171 = .ok (.ireturn, 1) := by decide +kernel
theorem dX7_at_172 : decode cX7_at 172 = .ok (.iload 5, 2) := by decide +kernel
theorem dX7_at_174 : decode cX7_at 174 = .ok (.ifCond .eq 39, 3) := by decide +kernel
theorem dX7_at_177 : decode cX7_at 177 = .ok (.iload_n 2, 1) := by decide +kernel
theorem dX7_at_178 : decode cX7_at 178 = .ok (.iconst 2, 1) := by decide +kernel
theorem dX7_at_179 : decode cX7_at 179 = .ok (.if_icmp .ne 12, 3) := by decide +kernel
theorem dX7_at_182 : decode cX7_at 182 = .ok (.aload_n 0, 1) := by decide +kernel
theorem dX7_at_183 : decode cX7_at 183 = .ok (.iload_n 3, 1) := by decide +kernel
theorem dX7_at_184 : decode cX7_at 184 = .ok (.iconst 3, 1) := by decide +kernel
theorem dX7_at_185 : decode cX7_at 185 = .ok (.invokevirtual 152, 3) := by decide +kernel
theorem dX7_at_188 : decode cX7_at 188 = .ok (.goto 24, 3) := by decide +kernel
theorem dX7_at_191 : decode cX7_at 191 = .ok (.aload_n 0, 1) := by decide +kernel
theorem dX7_at_192 : decode cX7_at 192 = .ok (.iload_n 3, 1) := by decide +kernel
theorem dX7_at_193 : decode cX7_at 193 = .ok (.iconst 1, 1) := by decide +kernel
theorem dX7_at_194 : decode cX7_at 194 = .ok (.isub, 1) := by decide +kernel
theorem dX7_at_195 : decode cX7_at 195 = .ok (.iconst 2, 1) := by decide +kernel
theorem dX7_at_196 : decode cX7_at 196 = .ok (.invokevirtual 152, 3) := by decide +kernel
theorem dX7_at_199 : decode cX7_at 199 = .ok (.aload_n 0, 1) := by decide +kernel
theorem dX7_at_200 : decode cX7_at 200 = .ok (.iload_n 3, 1) := by decide +kernel
theorem dX7_at_201 : decode cX7_at 201 = .ok (.iconst 1, 1) := by decide +kernel
theorem dX7_at_202 : decode cX7_at 202 = .ok (.invokevirtual 152, 3) := by decide +kernel
theorem dX7_at_205 : decode cX7_at 205 = .ok (.iload 4, 2) := by decide +kernel
theorem dX7_at_207 : decode cX7_at 207 = .ok (.iconst 1, 1) := by decide +kernel
theorem dX7_at_208 : decode cX7_at 208 = .ok (.iadd, 1) := by decide +kernel
theorem dX7_at_209 : decode cX7_at 209 = .ok (.invokestatic 190, 3) := by decide +kernel
theorem dX7_at_212 : decode cX7_at 212 = .ok (.ireturn, 1) := by decide +kernel
theorem dX7_at_213 : decode cX7_at 213 = .ok (.iload 4, 2) := by decide +kernel
theorem dX7_at_215 : decode cX7_at 215 = .ok (.aload_n 0, 1) := by decide +kernel
theorem dX7_at_216 : decode cX7_at 216 = .ok (.iload_n 3, 1) := by decide +kernel
theorem dX7_at_217 : decode cX7_at 217 = .ok (.invokevirtual 178, 3) := by decide +kernel
theorem dX7_at_220 : decode cX7_at 220 = .ok (.isub, 1) := by decide +kernel
theorem dX7_at_221 : decode cX7_at 221 = .ok (.istore 6, 2) := by decide +kernel
theorem dX7_at_223 : decode cX7_at 223 = .ok (.aload_n 0, 1) := by decide +kernel
theorem dX7_at_224 : decode cX7_at 224 = .ok (.iload_n 3, 1) := by decide +kernel
theorem dX7_at_225 : decode cX7_at 225 = .ok (.invokevirtual 172, 3) := by decide +kernel
theorem dX7_at_228 : decode cX7_at 228 = .ok (.ifCond .eq 9, 3) := by decide +kernel
theorem dX7_at_231 : decode cX7_at 231 = .ok (.iload 6, 2) := by decide +kernel
theorem dX7_at_233 : decode cX7_at 233 = .ok (.iconst 2, 1) := by decide +kernel
theorem dX7_at_234 : decode cX7_at 234 = .ok (.if_icmp .ge 7, 3) := by decide +kernel
theorem dX7_at_237 : decode cX7_at 237 = .ok (.iconst 0, 1) := by decide +kernel
theorem dX7_at_238 : decode cX7_at 238 = .ok (.goto 7, 3) := by decide +kernel
theorem dX7_at_241 : decode cX7_at 241 = .ok (.iload 6, 2) := by decide +kernel
theorem dX7_at_243 : decode cX7_at 243 = .ok (.iconst 1, 1) := by decide +kernel
theorem dX7_at_244 : decode cX7_at 244 = .ok (.isub, 1) := by decide +kernel
theorem dX7_at_245 : decode cX7_at 245 = .ok (.istore 7, 2) := by decide +kernel
theorem dX7_at_247 : decode cX7_at 247 = .ok (.iload_n 2, 1) := by decide +kernel
theorem dX7_at_248 : decode cX7_at 248 = .ok (.iconst 1, 1) := by decide +kernel
theorem dX7_at_249 : decode cX7_at 249 = .ok (.if_icmp .ne 23, 3) := by decide +kernel
theorem dX7_at_252 : decode cX7_at 252 = .ok (.aload_n 0, 1) := by decide +kernel
theorem dX7_at_253 : decode cX7_at 253 = .ok (.iload_n 3, 1) := by decide +kernel
theorem dX7_at_254 : decode cX7_at 254 = .ok (.iconst 1, 1) := by decide +kernel
theorem dX7_at_255 : decode cX7_at 255 = .ok (.invokevirtual 152, 3) := by decide +kernel
theorem dX7_at_258 : decode cX7_at 258 = .ok (.aload_n 0, 1) := by decide +kernel
theorem dX7_at_259 : decode cX7_at 259 = .ok (.iload_n 3, 1) := by decide +kernel
theorem dX7_at_260 : decode cX7_at 260 = .ok (.iconst 2, 1) := by decide +kernel
theorem dX7_at_261 : decode cX7_at 261 = .ok (.invokevirtual 152, 3) := by decide +kernel
theorem dX7_at_264 : decode cX7_at 264 = .ok (.iload 7, 2) := by decide +kernel
theorem dX7_at_266 : decode cX7_at 266 = .ok (.invokestatic 190, 3) := by decide +kernel
theorem dX7_at_269 : decode cX7_at 269 = .ok (.goto 23, 3) := by decide +kernel
theorem dX7_at_272 : decode cX7_at 272 = .ok (.iload 7, 2) := by decide +kernel
theorem dX7_at_274 : decode cX7_at 274 = .ok (.ifCond .ne 12, 3) := by decide +kernel
theorem dX7_at_277 : decode cX7_at 277 = .ok (.aload_n 0, 1) := by decide +kernel
theorem dX7_at_278 : decode cX7_at 278 = .ok (.iload_n 3, 1) := by decide +kernel
theorem dX7_at_279 : decode cX7_at 279 = .ok (.iconst 3, 1) := by decide +kernel
theorem dX7_at_280 : decode cX7_at 280 = .ok (.invokevirtual 152, 3) := by decide +kernel
theorem dX7_at_283 : decode cX7_at 283 = .ok (.goto 9, 3) := by decide +kernel
theorem dX7_at_286 : decode cX7_at 286 = .ok (.aload_n 0, 1) := by decide +kernel
theorem dX7_at_287 : decode cX7_at 287 = .ok (.iload_n 3, 1) := by decide +kernel
theorem dX7_at_288 : decode cX7_at 288 = .ok (.iconst 4, 1) := by decide +kernel
theorem dX7_at_289 : decode cX7_at 289 = .ok (.invokevirtual 152, 3) := by decide +kernel
theorem dX7_at_292 : decode cX7_at 292 = .ok (.ireturn, 1) := by decide +kernel
theorem dX7_isJust_0 : decode cX7_isJust 0 = .ok (.iconst 1, 1) := by decide +kernel
theorem dX7_isJust_1 : decode cX7_isJust 1 = .ok (.istore_n 3, 1) := by decide +kernel
theorem dX7_isJust_2 : decode cX7_isJust 2 = .ok (.iconst 0, 1) := by decide +kernel
theorem dX7_isJust_3 : decode cX7_isJust 3 = .ok (.istore 4, 2) := by decide +kernel
theorem dX7_isJust_5 : decode cX7_isJust 5 = .ok (.iload 4, 2) := by decide +kernel
theorem dX7_isJust_7 : decode cX7_isJust 7 = .ok (.bipush 7, 2) := by decide +kernel
theorem dX7_isJust_9 : decode cX7_isJust 9 = .ok (.if_icmp .ge 56, 3) := by decide +kernel
theorem dX7_isJust_12 : decode cX7_isJust 12 = .ok (.iload_n 3, 1) := by decide +kernel
theorem dX7_isJust_13 : decode cX7_isJust 13 = .ok (.iload 4, 2) := by decide +kernel
theorem dX7_isJust_15 : decode cX7_isJust 15 = .ok (.bipush 6, 2) := by decide +kernel
theorem dX7_isJust_17 : decode cX7_isJust 17 = .ok (.if_icmp .ne 13, 3) := by decide +kernel
theorem dX7_isJust_20 : decode cX7_isJust 20 = .ok (.aload_n 0, 1) := by decide +kernel
theorem dX7_isJust_21 : decode cX7_isJust 21 = .ok (.iload_n 2, 1) := by decide +kernel
theorem dX7_isJust_22 : decode cX7_isJust 22 = .ok (.iconst 5, 1) := by decide +kernel
theorem dX7_isJust_23 : decode cX7_isJust 23 = .ok (.invokevirtual 152, 3) := by decide +kernel
theorem dX7_isJust_26 : decode cX7_isJust 26 = .ok (.iconst 2, 1) := by decide +kernel
theorem dX7_isJust_27 : decode cX7_isJust 27 = .ok (.if_icmp .ne 25, 3) := by decide +kernel
theorem dX7_isJust_30 : decode cX7_isJust 30 = .ok (.aload_n 0, 1) := by decide +kernel
theorem dX7_isJust_31 : decode cX7_isJust 31 = .ok (.getfield 7, 3) := by decide +kernel
theorem dX7_isJust_34 : decode cX7_isJust 34 = .ok (.bipush 7, 2) := by decide +kernel
theorem dX7_isJust_36 : decode cX7_isJust 36 = .ok (.iload_n 1, 1) := by decide +kernel
theorem dX7_isJust_37 : decode cX7_isJust 37 = .ok (.imul, 1) := by decide +kernel
theorem dX7_isJust_38 : decode cX7_isJust 38 = .ok (.iload 4, 2) := by decide +kernel
theorem dX7_isJust_40 : decode cX7_isJust 40 = .ok (.iadd, 1) := by decide +kernel
theorem dX7_isJust_41 : decode cX7_isJust 41 = .ok (.iaload, 1) := by decide +kernel
theorem dX7_isJust_42 : decode cX7_isJust 42 = .ok (.aload_n 0, 1) := by decide +kernel
theorem dX7_isJust_43 : decode cX7_isJust 43 = .ok (.iload_n 2, 1) := by decide +kernel
theorem dX7_isJust_44 : decode cX7_isJust 44 = .ok (.iload 4, 2) := by decide +kernel
theorem dX7_isJust_46 : decode cX7_isJust 46 = .ok (.invokevirtual 152, 3) := by decide +kernel
theorem dX7_isJust_49 : decode cX7_isJust 49 = .ok (.if_icmp .ne 7, 3) := by decide +kernel
theorem dX7_isJust_52 : decode cX7_isJust 52 = .ok (.iconst 1, 1) := by decide +kernel
theorem dX7_isJust_53 : decode cX7_isJust 53 = .ok (.goto 4, 3) := by decide +kernel
theorem dX7_isJust_56 : decode cX7_isJust 56 = .ok (.iconst 0, 1) := by decide +kernel
theorem dX7_isJust_57 : decode cX7_isJust 57 = .ok (.iand, 1) := by decide +kernel
theorem dX7_isJust_58 : decode cX7_isJust 58 = .ok (.istore_n 3, 1) := by decide +kernel
theorem dX7_isJust_59 : decode cX7_isJust 59 = .ok (.iinc 4 1, 3) := by decide +kernel
theorem dX7_isJust_62 : decode cX7_isJust 62 = .ok (.goto (-57), 3) := by decide +kernel
theorem dX7_isJust_65 : decode cX7_isJust 65 = .ok (.iload_n 3, 1) := by decide +kernel
theorem dX7_isJust_66 : decode cX7_isJust 66 = .ok (.ireturn, 1) := by decide +kernel
theorem dX7_read_0 : decode cX7_read 0 = .ok (.aload_n 0, 1) := by decide +kernel
theorem dX7_read_1 : decode cX7_read 1 = .ok (.iload_n 1, 1) := by decide +kernel
theorem dX7_read_2 : decode cX7_read 2 = .ok (.iconst 1, 1) := by decide +kernel
theorem dX7_read_3 : decode cX7_read 3 = .ok (.invokevirtual 152, 3) := by decide +kernel
theorem dX7_read_6 : decode cX7_read 6 = .ok (.istore_n 2, 1) := by decide +kernel
theorem dX7_read_7 : decode cX7_read 7 = .ok (.aload_n 0, 1) := by decide +kernel
theorem dX7_read_8 : decode cX7_read 8 = .ok (.iload_n 1, 1) := by decide +kernel
theorem dX7_read_9 : decode cX7_read 9 = .ok (.iconst 3, 1) := by decide +kernel
theorem dX7_read_10 : decode cX7_read 10 = .ok (.invokevirtual 152, 3) := by decide +kernel
theorem dX7_read_13 : decode cX7_read 13 = .ok (.istore_n 3, 1) := by decide +kernel
theorem dX7_read_14 : decode cX7_read 14 = .ok (.aload_n 0, 1) := by decide +kernel
theorem dX7_read_15 : decode cX7_read 15 = .ok (.iload_n 1, 1) := by decide +kernel
theorem dX7_read_16 : decode cX7_read 16 = .ok (.iconst 0, 1) := by decide +kernel
theorem dX7_read_17 : decode cX7_read 17 = .ok (.invokevirtual 152, 3) := by decide +kernel
theorem dX7_read_20 : decode cX7_read 20 = .ok (.istore 4, 2) := by decide +kernel
theorem dX7_read_22 : decode cX7_read 22 = .ok (.aload_n 0, 1) := by decide +kernel
theorem dX7_read_23 : decode cX7_read 23 = .ok (.iload_n 1, 1) := by decide +kernel
theorem dX7_read_24 : decode cX7_read 24 = .ok (.invokevirtual 172, 3) := by decide +kernel
theorem dX7_read_27 : decode cX7_read 27 = .ok (.ifCond .ne 26, 3) := by decide +kernel
theorem dX7_read_30 : decode cX7_read 30 = .ok (.aload_n 0, 1) := by decide +kernel
theorem dX7_read_31 : decode cX7_read 31 = .ok (.getfield 13, 3) := by decide +kernel
theorem dX7_read_34 : decode cX7_read 34 = .ok (.iload_n 1, 1) := by decide +kernel
theorem dX7_read_35 : decode cX7_read 35 = .ok (.iaload, 1) := by decide +kernel
theorem dX7_read_36 : decode cX7_read 36 = .ok (.ifCond .eq 17, 3) := by decide +kernel
theorem dX7_read_39 : decode cX7_read 39 = .ok (.aload_n 0, 1) := by decide +kernel
theorem dX7_read_40 : decode cX7_read 40 = .ok (.getfield 13, 3) := by decide +kernel
theorem dX7_read_43 : decode cX7_read 43 = .ok (.iload_n 1, 1) := by decide +kernel
theorem dX7_read_44 : decode cX7_read 44 = .ok (.iaload, 1) := by decide +kernel
theorem dX7_read_45 : decode cX7_read 45 = .ok (.iconst 4, 1) := by decide +kernel
theorem dX7_read_46 : decode cX7_read 46 = .ok (.if_icmp .eq 7, 3) := by decide +kernel
theorem dX7_read_49 : decode cX7_read 49 = .ok (.iconst 1, 1) := by decide +kernel
theorem dX7_read_50 : decode cX7_read 50 = .ok (.goto 4, 3) := by decide +kernel
theorem dX7_read_53 : decode cX7_read 53 = .ok (.iconst 0, 1) := by decide +kernel
theorem dX7_read_54 : decode cX7_read 54 = .ok (.istore 5, 2) := by decide +kernel
theorem dX7_read_56 : decode cX7_read 56 = .ok (.iconst 0, 1) := by decide +kernel
theorem dX7_read_57 : decode cX7_read 57 = .ok (.istore 6, 2) := by decide +kernel
theorem dX7_read_59 : decode cX7_read 59 = .ok (.iload 6, 2) := by decide +kernel
theorem dX7_read_61 : decode cX7_read 61 = .ok (.iconst 4, 1) := by decide +kernel
theorem dX7_read_62 : decode cX7_read 62 = .ok (.if_icmp .ge 42, 3) := by decide +kernel
theorem dX7_read_65 : decode cX7_read 65 = .ok (.iload 5, 2) := by decide +kernel
theorem dX7_read_67 : decode cX7_read 67 = .ok (.ifCond .eq 31, 3) := by decide +kernel
theorem dX7_read_70 : decode cX7_read 70 = .ok (.iload_n 2, 1) := by decide +kernel
theorem dX7_read_71 : decode cX7_read 71 = .ok (.iload 6, 2) := by decide +kernel
theorem dX7_read_73 : decode cX7_read 73 = .ok (.invokestatic 149, 3) := by decide +kernel
theorem dX7_read_76 : decode cX7_read 76 = .ok (.if_icmp .ne 22, 3) := by decide +kernel
theorem dX7_read_79 : decode cX7_read 79 = .ok (.iload 4, 2) := by decide +kernel
theorem dX7_read_81 : decode cX7_read 81 = .ok (.iconst 1, 1) := by decide +kernel
theorem dX7_read_82 : decode cX7_read 82 = .ok (.if_icmp .ne 16, 3) := by decide +kernel
theorem dX7_read_85 : decode cX7_read 85 = .ok (.iload_n 3, 1) := by decide +kernel
theorem dX7_read_86 : decode cX7_read 86 = .ok (.ifCond .ne 12, 3) := by decide +kernel
theorem dX7_read_89 : decode cX7_read 89 = .ok (.sipush 200, 3) := by decide +kernel
theorem dX7_read_92 : decode cX7_read 92 = .ok (.iload 6, 2) := by decide +kernel
theorem dX7_read_94 : decode cX7_read 94 = .ok (.iadd, 1) := by decide +kernel
theorem dX7_read_95 : decode cX7_read 95 = .ok (.iconst 1, 1) := by decide +kernel
theorem dX7_read_96 : decode cX7_read 96 = .ok (.iadd, 1) := by decide +kernel
theorem dX7_read_97 : decode cX7_read 97 = .ok (.ireturn, 1) := by decide +kernel
theorem dX7_read_98 : decode cX7_read 98 = .ok (.iinc 6 1, 3) := by decide +kernel
theorem dX7_read_101 : decode cX7_read 101 = .ok (.goto (-42), 3) := by decide +kernel
theorem dX7_read_104 : decode cX7_read 104 = .ok (.iload 5, 2) := by decide +kernel
theorem dX7_read_106 : decode cX7_read 106 = .ok (.ifCond .eq 34, 3) := by decide +kernel
theorem dX7_read_109 : decode cX7_read 109 = .ok (.iload_n 2, 1) := by decide +kernel
theorem dX7_read_110 : decode cX7_read 110 = .ok (.iconst 4, 1) := by decide +kernel
theorem dX7_read_111 : decode cX7_read 111 = .ok (.if_icmp .ne 29, 3) := by decide +kernel
theorem dX7_read_114 : decode cX7_read 114 = .ok (.bipush 8, 2) := by decide +kernel
theorem dX7_read_116 : decode cX7_read 116 = .ok (.iload_n 3, 1) := by decide +kernel
theorem dX7_read_117 : decode cX7_read 117 = .ok (.imul, 1) := by decide +kernel
theorem dX7_read_118 : decode cX7_read 118 = .ok (.iload 4, 2) := by decide +kernel
theorem dX7_read_120 : decode cX7_read 120 = .ok (.iadd, 1) := by decide +kernel
theorem dX7_read_121 : decode cX7_read 121 = .ok (.bipush 26, 2) := by decide +kernel
theorem dX7_read_123 : decode cX7_read 123 = .ok (.if_icmp .ge 17, 3) := by decide +kernel
theorem dX7_read_126 : decode cX7_read 126 = .ok (.sipush 500, 3) := by decide +kernel
theorem dX7_read_129 : decode cX7_read 129 = .ok (.bipush 8, 2) := by decide +kernel
theorem dX7_read_131 : decode cX7_read 131 = .ok (.iload_n 3, 1) := by decide +kernel
theorem dX7_read_132 : decode cX7_read 132 = .ok (.imul, 1) := by decide +kernel
theorem dX7_read_133 : decode cX7_read 133 = .ok (.iadd, 1) := by decide +kernel
theorem dX7_read_134 : decode cX7_read 134 = .ok (.iload 4, 2) := by decide +kernel
theorem dX7_read_136 : decode cX7_read 136 = .ok (.iadd, 1) := by decide +kernel
theorem dX7_read_137 : decode cX7_read 137 = .ok (.iconst 1, 1) := by decide +kernel
theorem dX7_read_138 : decode cX7_read 138 = .ok (.iadd, 1) := by decide +kernel
theorem dX7_read_139 : decode cX7_read 139 = .ok (.ireturn, 1) := by decide +kernel
theorem dX7_read_140 : decode cX7_read 140 = .ok (.iconst (-1), 1) := by decide +kernel
theorem dX7_read_141 : decode cX7_read 141 = .ok (.istore 6, 2) := by decide +kernel
theorem dX7_read_143 : decode cX7_read 143 = .ok (.iconst 0, 1) := by decide +kernel
theorem dX7_read_144 : decode cX7_read 144 = .ok (.istore 7, 2) := by decide +kernel
theorem dX7_read_146 : decode cX7_read 146 = .ok (.aload_n 0, 1) := by decide +kernel
theorem dX7_read_147 : decode cX7_read 147 = .ok (.getfield 86, 3) := by decide +kernel
theorem dX7_read_150 : decode cX7_read 150 = .ok (.iconst 1, 1) := by decide +kernel
theorem dX7_read_151 : decode cX7_read 151 = .ok (.isub, 1) := by decide +kernel
theorem dX7_read_152 : decode cX7_read 152 = .ok (.istore 8, 2) := by decide +kernel
theorem dX7_read_154 : decode cX7_read 154 = .ok (.iload 8, 2) := by decide +kernel
theorem dX7_read_156 : decode cX7_read 156 = .ok (.ifCond .lt 26, 3) := by decide +kernel
theorem dX7_read_159 : decode cX7_read 159 = .ok (.aload_n 0, 1) := by decide +kernel
theorem dX7_read_160 : decode cX7_read 160 = .ok (.iload 8, 2) := by decide +kernel
theorem dX7_read_162 : decode cX7_read 162 = .ok (.iload_n 1, 1) := by decide +kernel
theorem dX7_read_163 : decode cX7_read 163 = .ok (.invokevirtual 194, 3) := by decide +kernel
theorem dX7_read_166 : decode cX7_read 166 = .ok (.ifCond .eq 10, 3) := by decide +kernel
theorem dX7_read_169 : decode cX7_read 169 = .ok (.iload 8, 2) := by decide +kernel
theorem dX7_read_171 : decode cX7_read 171 = .ok (.istore 6, 2) := by decide +kernel
theorem dX7_read_173 : decode cX7_read 173 = .ok (.iinc 7 1, 3) := by decide +kernel
theorem dX7_read_176 : decode cX7_read 176 = .ok (.iinc 8 (-1), 3) := by decide +kernel
theorem dX7_read_179 : decode cX7_read 179 = .ok (.goto (-25), 3) := by decide +kernel
theorem dX7_read_182 : decode cX7_read 182 = .ok (.iload 7, 2) := by decide +kernel
theorem dX7_read_184 : decode cX7_read 184 = .ok (.ifCond .ne 7, 3) := by decide +kernel
theorem dX7_read_187 : decode cX7_read 187 = .ok (.iconst (-1), 1) := by decide +kernel
theorem dX7_read_188 : decode cX7_read 188 = .ok (.goto 14, 3) := by decide +kernel
theorem dX7_read_191 : decode cX7_read 191 = .ok (.sipush 10000, 3) := by decide +kernel
theorem dX7_read_194 : decode cX7_read 194 = .ok (.iload 7, 2) := by decide +kernel
theorem dX7_read_196 : decode cX7_read 196 = .ok (.imul, 1) := by decide +kernel
theorem dX7_read_197 : decode cX7_read 197 = .ok (.iload 6, 2) := by decide +kernel
theorem dX7_read_199 : decode cX7_read 199 = .ok (.iadd, 1) := by decide +kernel
theorem dX7_read_200 : decode cX7_read 200 = .ok (.iconst 1, 1) := by decide +kernel
theorem dX7_read_201 : decode cX7_read 201 = .ok (.iadd, 1) := by decide +kernel
theorem dX7_read_202 : decode cX7_read 202 = .ok (.ireturn, 1) := by decide +kernel
theorem dX7_readBack_0 : decode cX7_readBack 0 = .ok (.aload_n 0, 1) := by decide +kernel
theorem dX7_readBack_1 : decode cX7_readBack 1 = .ok (.aload_n 0, 1) := by decide +kernel
theorem dX7_readBack_2 : decode cX7_readBack 2 = .ok (.iload_n 1, 1) := by decide +kernel
theorem dX7_readBack_3 : decode cX7_readBack 3 = .ok (.invokevirtual 127, 3) := by decide +kernel
theorem dX7_readBack_6 : decode cX7_readBack 6 = .ok (.ifCond .ne 7, 3) := by decide +kernel
theorem dX7_readBack_9 : decode cX7_readBack 9 = .ok (.iconst 1, 1) := by decide +kernel
theorem dX7_readBack_10 : decode cX7_readBack 10 = .ok (.goto 17, 3) := by decide +kernel
theorem dX7_readBack_13 : decode cX7_readBack 13 = .ok (.iload_n 2, 1) := by decide +kernel
theorem dX7_readBack_14 : decode cX7_readBack 14 = .ok (.iconst 0, 1) := by decide +kernel
theorem dX7_readBack_15 : decode cX7_readBack 15 = .ok (.iconst 2, 1) := by decide +kernel
theorem dX7_readBack_16 : decode cX7_readBack 16 = .ok (.invokestatic 89, 3) := by decide +kernel
theorem dX7_readBack_19 : decode cX7_readBack 19 = .ok (.ifCond .ne 7, 3) := by decide +kernel
theorem dX7_readBack_22 : decode cX7_readBack 22 = .ok (.iconst 2, 1) := by decide +kernel
theorem dX7_readBack_23 : decode cX7_readBack 23 = .ok (.goto 4, 3) := by decide +kernel
theorem dX7_readBack_26 : decode cX7_readBack 26 = .ok (.iconst 0, 1) := by decide +kernel
theorem dX7_readBack_27 : decode cX7_readBack 27 = .ok (.putfield 78, 3) := by decide +kernel
theorem dX7_readBack_30 : decode cX7_readBack 30 = .ok (.aload_n 0, 1) := by decide +kernel
theorem dX7_readBack_31 : decode cX7_readBack 31 = .ok (.getfield 78, 3) := by decide +kernel
theorem dX7_readBack_34 : decode cX7_readBack 34 = .ok (.ifCond .le 5, 3) := by decide +kernel
theorem dX7_readBack_37 : decode cX7_readBack 37 = .ok (.iconst 0, 1) := by decide +kernel
theorem dX7_readBack_38 : decode cX7_readBack 38 = .ok (.ireturn, 1) := by decide +kernel
theorem dX7_readBack_39 : decode cX7_readBack 39 = .ok (.aload_n 0, 1) := by decide +kernel
theorem dX7_readBack_40 : decode cX7_readBack 40 = .ok (.invokevirtual 184, 3) := by decide +kernel
theorem dX7_readBack_43 : decode cX7_readBack 43 = .ok (.aload_n 0, 1) := by decide +kernel
theorem dX7_readBack_44 : decode cX7_readBack 44 = .ok (.iload_n 1, 1) := by decide +kernel
theorem dX7_readBack_45 : decode cX7_readBack 45 = .ok (.invokevirtual 197, 3) := by decide +kernel
theorem dX7_readBack_48 : decode cX7_readBack 48 = .ok (.istore_n 3, 1) := by decide +kernel
theorem dX7_readBack_49 : decode cX7_readBack 49 = .ok (.iload_n 3, 1) := by decide +kernel
theorem dX7_readBack_50 : decode cX7_readBack 50 = .ok (.iconst (-1), 1) := by decide +kernel
theorem dX7_readBack_51 : decode cX7_readBack 51 = .ok (.if_icmp .ne 14, 3) := by decide +kernel
theorem dX7_readBack_54 : decode cX7_readBack 54 = .ok (.iload_n 2, 1) := by decide +kernel
theorem dX7_readBack_55 : decode cX7_readBack 55 = .ok (.iconst 2, 1) := by decide +kernel
theorem dX7_readBack_56 : decode cX7_readBack 56 = .ok (.if_icmp .ne 7, 3) := by decide +kernel
theorem dX7_readBack_59 : decode cX7_readBack 59 = .ok (.iconst 0, 1) := by decide +kernel
theorem dX7_readBack_60 : decode cX7_readBack 60 = .ok (.goto 4, 3) := by decide +kernel
theorem dX7_readBack_63 : decode cX7_readBack 63 = .ok (.iconst (-1), 1) := by decide +kernel
theorem dX7_readBack_64 : decode cX7_readBack 64 = .ok (.ireturn, 1) := by decide +kernel
theorem dX7_readBack_65 : decode cX7_readBack 65 = .ok (.iload_n 2, 1) := by decide +kernel
theorem dX7_readBack_66 : decode cX7_readBack 66 = .ok (.ifCond .ne 14, 3) := by decide +kernel
theorem dX7_readBack_69 : decode cX7_readBack 69 = .ok (.iload_n 3, 1) := by decide +kernel
theorem dX7_readBack_70 : decode cX7_readBack 70 = .ok (.sipush 10000, 3) := by decide +kernel
theorem dX7_readBack_73 : decode cX7_readBack 73 = .ok (.irem, 1) := by decide +kernel
theorem dX7_readBack_74 : decode cX7_readBack 74 = .ok (.bipush 100, 2) := by decide +kernel
theorem dX7_readBack_76 : decode cX7_readBack 76 = .ok (.idiv, 1) := by decide +kernel
theorem dX7_readBack_77 : decode cX7_readBack 77 = .ok (.goto 22, 3) := by decide +kernel
theorem dX7_readBack_80 : decode cX7_readBack 80 = .ok (.iload_n 2, 1) := by decide +kernel
theorem dX7_readBack_81 : decode cX7_readBack 81 = .ok (.iconst 1, 1) := by decide +kernel
theorem dX7_readBack_82 : decode cX7_readBack 82 = .ok (.if_icmp .ne 12, 3) := by decide +kernel
theorem dX7_readBack_85 : decode cX7_readBack 85 = .ok (.iload_n 3, 1) := by decide +kernel
theorem dX7_readBack_86 : decode cX7_readBack 86 = .ok (.bipush 100, 2) := by decide +kernel
theorem dX7_readBack_88 : decode cX7_readBack 88 = .ok (.irem, 1) := by decide +kernel
theorem dX7_readBack_89 : decode cX7_readBack 89 = .ok (.iconst 1, 1) := by decide +kernel
theorem dX7_readBack_90 : decode cX7_readBack 90 = .ok (.isub, 1) := by decide +kernel
theorem dX7_readBack_91 : decode cX7_readBack 91 = .ok (.goto 8, 3) := by decide +kernel
theorem dX7_readBack_94 : decode cX7_readBack 94 = .ok (.iload_n 3, 1) := by decide +kernel
theorem dX7_readBack_95 : decode cX7_readBack 95 = .ok (.sipush 10000, 3) := by decide +kernel
theorem dX7_readBack_98 : decode cX7_readBack 98 = .ok (.idiv, 1) := by decide +kernel
theorem dX7_readBack_99 : decode cX7_readBack 99 = .ok (.ireturn, 1) := by decide +kernel
theorem dX7_isClip_0 : decode cX7_isClip 0 = .ok (.iload_n 1, 1) := by decide +kernel
theorem dX7_isClip_1 : decode cX7_isClip 1 = .ok (.iconst 0, 1) := by decide +kernel
