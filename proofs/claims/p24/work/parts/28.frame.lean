/-! the frames: a call is the run of its body; what is behind a call -/
theorem M_0 (a0 a1 a2 a3 a4 : Value) (σ : mm_S) : mm_M 0 [a0, a1, a2, a3, a4] σ = mm_L 0 0 [a0, a1, a2, a3, a4] [] σ := rfl
theorem M_1 (a0 a1 : Value) (σ : mm_S) : mm_M 1 [a0, a1] σ = mm_L 1 0 [a0, a1] [] σ := rfl
theorem M_2 (a0 : Value) (σ : mm_S) : mm_M 2 [a0] σ = mm_L 2 0 [a0] [] σ := rfl
theorem M_3 (a0 a1 a2 : Value) (σ : mm_S) : mm_M 3 [a0, a1, a2] σ = mm_L 3 0 [a0, a1, a2, mm_un, mm_un] [] σ := rfl
theorem M_4 (a0 a1 a2 a3 a4 : Value) (σ : mm_S) : mm_M 4 [a0, a1, a2, a3, a4] σ = mm_L 4 0 [a0, a1, a2, a3, a4, mm_un, mm_un] [] σ := rfl
theorem M_5 (a0 a1 a2 a3 : Value) (σ : mm_S) : mm_M 5 [a0, a1, a2, a3] σ = mm_L 5 0 [a0, a1, a2, a3, mm_un] [] σ := rfl
theorem M_6 (a0 a1 a2 a3 a4 a5 a6 a7 : Value) (σ : mm_S) : mm_M 6 [a0, a1, a2, a3, a4, a5, a6, a7] σ = mm_L 6 0 [a0, a1, a2, a3, a4, a5, a6, a7] [] σ := rfl
theorem M_7 (a0 a1 : Value) (σ : mm_S) : mm_M 7 [a0, a1] σ = mm_L 7 0 [a0, a1] [] σ := rfl
theorem M_8 (a0 a1 : Value) (σ : mm_S) : mm_M 8 [a0, a1] σ = mm_L 8 0 [a0, a1, mm_un] [] σ := rfl
theorem M_9 (a0 a1 : Value) (σ : mm_S) : mm_M 9 [a0, a1] σ = mm_L 9 0 [a0, a1] [] σ := rfl
theorem M_10 (a0 : Value) (σ : mm_S) : mm_M 10 [a0] σ = mm_L 10 0 [a0] [] σ := rfl
theorem M_11 (a0 : Value) (σ : mm_S) : mm_M 11 [a0] σ = mm_L 11 0 [a0] [] σ := rfl
theorem M_12 (a0 a1 a2 a3 a4 : Value) (σ : mm_S) : mm_M 12 [a0, a1, a2, a3, a4] σ = mm_L 12 0 [a0, a1, a2, a3, a4] [] σ := rfl
theorem M_13 (a0 : Value) (σ : mm_S) : mm_M 13 [a0] σ = mm_L 13 0 [a0] [] σ := rfl
theorem M_14 (a0 : Value) (σ : mm_S) : mm_M 14 [a0] σ = mm_L 14 0 [a0] [] σ := rfl
theorem M_15 (a0 a1 a2 a3 a4 a5 : Value) (σ : mm_S) : mm_M 15 [a0, a1, a2, a3, a4, a5] σ = mm_L 15 0 [a0, a1, a2, a3, a4, a5] [] σ := rfl
theorem M_16 (a0 a1 a2 : Value) (σ : mm_S) : mm_M 16 [a0, a1, a2] σ = mm_L 16 0 [a0, a1, a2] [] σ := rfl
theorem M_17 (a0 a1 : Value) (σ : mm_S) : mm_M 17 [a0, a1] σ = mm_L 17 0 [a0, a1, mm_un] [] σ := rfl
theorem M_18 (a0 a1 : Value) (σ : mm_S) : mm_M 18 [a0, a1] σ = mm_L 18 0 [a0, a1, mm_un, mm_un] [] σ := rfl
theorem M_19 (a0 a1 : Value) (σ : mm_S) : mm_M 19 [a0, a1] σ = mm_L 19 0 [a0, a1] [] σ := rfl
theorem M_20 (a0 a1 : Value) (σ : mm_S) : mm_M 20 [a0, a1] σ = mm_L 20 0 [a0, a1] [] σ := rfl
theorem M_21 (a0 a1 : Value) (σ : mm_S) : mm_M 21 [a0, a1] σ = mm_L 21 0 [a0, a1] [] σ := rfl
theorem M_22 (a0 a1 a2 a3 : Value) (σ : mm_S) : mm_M 22 [a0, a1, a2, a3] σ = mm_L 22 0 [a0, a1, a2, a3] [] σ := rfl
theorem M_23 (a0 : Value) (σ : mm_S) : mm_M 23 [a0] σ = mm_L 23 0 [a0] [] σ := rfl
theorem M_24 (a0 a1 a2 a3 a4 a5 a6 a7 : Value) (σ : mm_S) : mm_M 24 [a0, a1, a2, a3, a4, a5, a6, a7] σ = mm_L 24 0 [a0, a1, a2, a3, a4, a5, a6, a7, mm_un, mm_un] [] σ := rfl
theorem M_25 (a0 a1 a2 : Value) (σ : mm_S) : mm_M 25 [a0, a1, a2] σ = mm_L 25 0 [a0, a1, a2, mm_un, mm_un, mm_un, mm_un, mm_un] [] σ := rfl
theorem M_26 (a0 a1 a2 : Value) (σ : mm_S) : mm_M 26 [a0, a1, a2] σ = mm_L 26 0 [a0, a1, a2] [] σ := rfl
theorem M_27 (a0 a1 a2 : Value) (σ : mm_S) : mm_M 27 [a0, a1, a2] σ = mm_L 27 0 [a0, a1, a2, mm_un, mm_un, mm_un] [] σ := rfl
theorem M_28 (a0 a1 a2 a3 : Value) (σ : mm_S) : mm_M 28 [a0, a1, a2, a3] σ = mm_L 28 0 [a0, a1, a2, a3] [] σ := rfl
theorem M_29 (a0 a1 : Value) (σ : mm_S) : mm_M 29 [a0, a1] σ = mm_L 29 0 [a0, a1, mm_un, mm_un, mm_un] [] σ := rfl
theorem M_30 (a0 a1 : Value) (σ : mm_S) : mm_M 30 [a0, a1] σ = mm_L 30 0 [a0, a1] [] σ := rfl
theorem M_31 (a0 a1 : Value) (σ : mm_S) : mm_M 31 [a0, a1] σ = mm_L 31 0 [a0, a1, mm_un] [] σ := rfl
theorem M_32 (a0 a1 : Value) (σ : mm_S) : mm_M 32 [a0, a1] σ = mm_L 32 0 [a0, a1, mm_un, mm_un] [] σ := rfl
theorem M_33 (a0 a1 : Value) (σ : mm_S) : mm_M 33 [a0, a1] σ = mm_L 33 0 [a0, a1] [] σ := rfl
theorem M_34 (a0 a1 : Value) (σ : mm_S) : mm_M 34 [a0, a1] σ = mm_L 34 0 [a0, a1] [] σ := rfl
theorem M_35 (a0 : Value) (σ : mm_S) : mm_M 35 [a0] σ = mm_L 35 0 [a0] [] σ := rfl
theorem M_36 (a0 a1 a2 a3 a4 : Value) (σ : mm_S) : mm_M 36 [a0, a1, a2, a3, a4] σ = mm_L 36 0 [a0, a1, a2, a3, a4] [] σ := rfl
theorem M_37 (a0 : Value) (σ : mm_S) : mm_M 37 [a0] σ = mm_L 37 0 [a0, mm_un] [] σ := rfl
theorem M_38 (a0 a1 a2 a3 : Value) (σ : mm_S) : mm_M 38 [a0, a1, a2, a3] σ = mm_L 38 0 [a0, a1, a2, a3] [] σ := rfl
theorem M_39 (a0 a1 a2 : Value) (σ : mm_S) : mm_M 39 [a0, a1, a2] σ = mm_L 39 0 [a0, a1, a2] [] σ := rfl
theorem M_40 (a0 a1 a2 : Value) (σ : mm_S) : mm_M 40 [a0, a1, a2] σ = mm_L 40 0 [a0, a1, a2] [] σ := rfl
theorem M_41 (a0 a1 a2 a3 a4 : Value) (σ : mm_S) : mm_M 41 [a0, a1, a2, a3, a4] σ = mm_L 41 0 [a0, a1, a2, a3, a4] [] σ := rfl
theorem M_42 (a0 a1 a2 a3 : Value) (σ : mm_S) : mm_M 42 [a0, a1, a2, a3] σ = mm_L 42 0 [a0, a1, a2, a3] [] σ := rfl
theorem M_43 (a0 a1 a2 a3 a4 : Value) (σ : mm_S) : mm_M 43 [a0, a1, a2, a3, a4] σ = mm_L 43 0 [a0, a1, a2, a3, a4] [] σ := rfl
theorem M_44 (a0 a1 : Value) (σ : mm_S) : mm_M 44 [a0, a1] σ = mm_L 44 0 [a0, a1, mm_un] [] σ := rfl
theorem M_45 (a0 a1 : Value) (σ : mm_S) : mm_M 45 [a0, a1] σ = mm_L 45 0 [a0, a1] [] σ := rfl
theorem M_46 (a0 a1 a2 : Value) (σ : mm_S) : mm_M 46 [a0, a1, a2] σ = mm_L 46 0 [a0, a1, a2, mm_un, mm_un, mm_un] [] σ := rfl
theorem M_47 (a0 a1 a2 a3 a4 : Value) (σ : mm_S) : mm_M 47 [a0, a1, a2, a3, a4] σ = mm_L 47 0 [a0, a1, a2, a3, a4, mm_un, mm_un, mm_un] [] σ := rfl
theorem M_48 (a0 a1 a2 : Value) (σ : mm_S) : mm_M 48 [a0, a1, a2] σ = mm_L 48 0 [a0, a1, a2] [] σ := rfl
theorem M_49 (a0 a1 a2 a3 : Value) (σ : mm_S) : mm_M 49 [a0, a1, a2, a3] σ = mm_L 49 0 [a0, a1, a2, a3, mm_un, mm_un] [] σ := rfl
theorem M_50 (a0 a1 a2 : Value) (σ : mm_S) : mm_M 50 [a0, a1, a2] σ = mm_L 50 0 [a0, a1, a2, mm_un, mm_un] [] σ := rfl
theorem M_51 (a0 a1 a2 : Value) (σ : mm_S) : mm_M 51 [a0, a1, a2] σ = mm_L 51 0 [a0, a1, a2, mm_un, mm_un] [] σ := rfl
theorem M_52 (a0 : Value) (σ : mm_S) : mm_M 52 [a0] σ = mm_L 52 0 [a0] [] σ := rfl
theorem M_53 (a0 a1 : Value) (σ : mm_S) : mm_M 53 [a0, a1] σ = mm_L 53 0 [a0, a1] [] σ := rfl
theorem M_54 (a0 : Value) (σ : mm_S) : mm_M 54 [a0] σ = mm_L 54 0 [a0] [] σ := rfl
theorem M_55 (a0 : Value) (σ : mm_S) : mm_M 55 [a0] σ = mm_L 55 0 [a0] [] σ := rfl
theorem M_56 (a0 : Value) (σ : mm_S) : mm_M 56 [a0] σ = mm_L 56 0 [a0, mm_un] [] σ := rfl
theorem M_57 (a0 a1 : Value) (σ : mm_S) : mm_M 57 [a0, a1] σ = mm_L 57 0 [a0, a1] [] σ := rfl
theorem M_58 (a0 a1 a2 : Value) (σ : mm_S) : mm_M 58 [a0, a1, a2] σ = mm_L 58 0 [a0, a1, a2] [] σ := rfl
theorem M_59 (a0 : Value) (σ : mm_S) : mm_M 59 [a0] σ = mm_L 59 0 [a0, mm_un, mm_un] [] σ := rfl
theorem M_60 (a0 a1 : Value) (σ : mm_S) : mm_M 60 [a0, a1] σ = mm_L 60 0 [a0, a1, mm_un, mm_un] [] σ := rfl
theorem M_61 (a0 a1 a2 : Value) (σ : mm_S) : mm_M 61 [a0, a1, a2] σ = mm_L 61 0 [a0, a1, a2] [] σ := rfl
theorem M_62 (a0 a1 : Value) (σ : mm_S) : mm_M 62 [a0, a1] σ = mm_L 62 0 [a0, a1] [] σ := rfl
theorem M_63 (a0 a1 a2 : Value) (σ : mm_S) : mm_M 63 [a0, a1, a2] σ = mm_L 63 0 [a0, a1, a2, mm_un, mm_un] [] σ := rfl
theorem M_64 (a0 a1 a2 : Value) (σ : mm_S) : mm_M 64 [a0, a1, a2] σ = mm_L 64 0 [a0, a1, a2, mm_un] [] σ := rfl
theorem M_65 (a0 a1 a2 : Value) (σ : mm_S) : mm_M 65 [a0, a1, a2] σ = mm_L 65 0 [a0, a1, a2, mm_un, mm_un, mm_un] [] σ := rfl
theorem M_66 (a0 a1 a2 : Value) (σ : mm_S) : mm_M 66 [a0, a1, a2] σ = mm_L 66 0 [a0, a1, a2, mm_un] [] σ := rfl
theorem M_67 (a0 a1 : Value) (σ : mm_S) : mm_M 67 [a0, a1] σ = mm_L 67 0 [a0, a1] [] σ := rfl
theorem M_68 (a0 a1 a2 : Value) (σ : mm_S) : mm_M 68 [a0, a1, a2] σ = mm_L 68 0 [a0, a1, a2, mm_un] [] σ := rfl
theorem M_69 (a0 a1 a2 : Value) (σ : mm_S) : mm_M 69 [a0, a1, a2] σ = mm_L 69 0 [a0, a1, a2, mm_un, mm_un, mm_un] [] σ := rfl
theorem M_70 (a0 a1 a2 : Value) (σ : mm_S) : mm_M 70 [a0, a1, a2] σ = mm_L 70 0 [a0, a1, a2, mm_un, mm_un] [] σ := rfl
theorem M_71 (a0 : Value) (σ : mm_S) : mm_M 71 [a0] σ = mm_L 71 0 [a0, mm_un, mm_un, mm_un] [] σ := rfl
theorem M_72 (a0 a1 : Value) (σ : mm_S) : mm_M 72 [a0, a1] σ = mm_L 72 0 [a0, a1] [] σ := rfl
theorem M_73 (a0 : Value) (σ : mm_S) : mm_M 73 [a0] σ = mm_L 73 0 [a0] [] σ := rfl
theorem M_74 (a0 a1 : Value) (σ : mm_S) : mm_M 74 [a0, a1] σ = mm_L 74 0 [a0, a1, mm_un] [] σ := rfl
theorem M_75 (a0 a1 a2 : Value) (σ : mm_S) : mm_M 75 [a0, a1, a2] σ = mm_L 75 0 [a0, a1, a2, mm_un, mm_un] [] σ := rfl
theorem M_76 (a0 a1 : Value) (σ : mm_S) : mm_M 76 [a0, a1] σ = mm_L 76 0 [a0, a1] [] σ := rfl
theorem M_77 (a0 a1 : Value) (σ : mm_S) : mm_M 77 [a0, a1] σ = mm_L 77 0 [a0, a1] [] σ := rfl
theorem M_78 (a0 a1 : Value) (σ : mm_S) : mm_M 78 [a0, a1] σ = mm_L 78 0 [a0, a1] [] σ := rfl
theorem M_79 (a0 a1 a2 : Value) (σ : mm_S) : mm_M 79 [a0, a1, a2] σ = mm_L 79 0 [a0, a1, a2, mm_un, mm_un, mm_un, mm_un] [] σ := rfl
theorem M_80 (a0 a1 : Value) (σ : mm_S) : mm_M 80 [a0, a1] σ = mm_L 80 0 [a0, a1] [] σ := rfl
theorem M_81 (a0 a1 a2 : Value) (σ : mm_S) : mm_M 81 [a0, a1, a2] σ = mm_L 81 0 [a0, a1, a2] [] σ := rfl
theorem M_82 (a0 : Value) (σ : mm_S) : mm_M 82 [a0] σ = mm_L 82 0 [a0, mm_un] [] σ := rfl
theorem M_83 (a0 : Value) (σ : mm_S) : mm_M 83 [a0] σ = mm_L 83 0 [a0, mm_un] [] σ := rfl
theorem M_84 (a0 a1 : Value) (σ : mm_S) : mm_M 84 [a0, a1] σ = mm_L 84 0 [a0, a1] [] σ := rfl
theorem M_85 (a0 a1 a2 a3 : Value) (σ : mm_S) : mm_M 85 [a0, a1, a2, a3] σ = mm_L 85 0 [a0, a1, a2, a3, mm_un, mm_un, mm_un] [] σ := rfl
theorem M_86 (a0 a1 a2 a3 : Value) (σ : mm_S) : mm_M 86 [a0, a1, a2, a3] σ = mm_L 86 0 [a0, a1, a2, a3] [] σ := rfl
theorem M_87 (a0 a1 : Value) (σ : mm_S) : mm_M 87 [a0, a1] σ = mm_L 87 0 [a0, a1] [] σ := rfl
theorem M_88 (a0 a1 : Value) (σ : mm_S) : mm_M 88 [a0, a1] σ = mm_L 88 0 [a0, a1, mm_un] [] σ := rfl
theorem M_89 (a0 a1 a2 a3 a4 a5 a6 : Value) (σ : mm_S) : mm_M 89 [a0, a1, a2, a3, a4, a5, a6] σ = mm_L 89 0 [a0, a1, a2, a3, a4, a5, a6, mm_un, mm_un] [] σ := rfl
theorem M_90 (a0 a1 a2 a3 a4 a5 : Value) (σ : mm_S) : mm_M 90 [a0, a1, a2, a3, a4, a5] σ = mm_L 90 0 [a0, a1, a2, a3, a4, a5, mm_un] [] σ := rfl
theorem M_91 (a0 a1 : Value) (σ : mm_S) : mm_M 91 [a0, a1] σ = mm_L 91 0 [a0, a1] [] σ := rfl
theorem M_92 (a0 a1 a2 : Value) (σ : mm_S) : mm_M 92 [a0, a1, a2] σ = mm_L 92 0 [a0, a1, a2, mm_un, mm_un, mm_un, mm_un] [] σ := rfl
theorem M_93 (a0 : Value) (σ : mm_S) : mm_M 93 [a0] σ = mm_L 93 0 [a0, mm_un, mm_un] [] σ := rfl
theorem M_94 (a0 : Value) (σ : mm_S) : mm_M 94 [a0] σ = mm_L 94 0 [a0, mm_un, mm_un] [] σ := rfl
theorem M_95 (a0 a1 a2 a3 : Value) (σ : mm_S) : mm_M 95 [a0, a1, a2, a3] σ = mm_L 95 0 [a0, a1, a2, a3, mm_un, mm_un, mm_un] [] σ := rfl
theorem M_96 (a0 a1 : Value) (σ : mm_S) : mm_M 96 [a0, a1] σ = mm_L 96 0 [a0, a1] [] σ := rfl
theorem M_97 (a0 : Value) (σ : mm_S) : mm_M 97 [a0] σ = mm_L 97 0 [a0] [] σ := rfl
theorem M_98 (a0 : Value) (σ : mm_S) : mm_M 98 [a0] σ = mm_L 98 0 [a0] [] σ := rfl
theorem M_99 (a0 : Value) (σ : mm_S) : mm_M 99 [a0] σ = mm_L 99 0 [a0] [] σ := rfl
theorem M_100 (a0 : Value) (σ : mm_S) : mm_M 100 [a0] σ = mm_L 100 0 [a0] [] σ := rfl
theorem M_101 (a0 a1 : Value) (σ : mm_S) : mm_M 101 [a0, a1] σ = mm_L 101 0 [a0, a1] [] σ := rfl
theorem M_102 (a0 : Value) (σ : mm_S) : mm_M 102 [a0] σ = mm_L 102 0 [a0] [] σ := rfl
theorem M_103 (a0 : Value) (σ : mm_S) : mm_M 103 [a0] σ = mm_L 103 0 [a0] [] σ := rfl
theorem M_104 (a0 a1 : Value) (σ : mm_S) : mm_M 104 [a0, a1] σ = mm_L 104 0 [a0, a1] [] σ := rfl
theorem M_105 (a0 a1 : Value) (σ : mm_S) : mm_M 105 [a0, a1] σ = mm_L 105 0 [a0, a1] [] σ := rfl
theorem M_106 (a0 a1 a2 a3 a4 a5 : Value) (σ : mm_S) : mm_M 106 [a0, a1, a2, a3, a4, a5] σ = mm_L 106 0 [a0, a1, a2, a3, a4, a5, mm_un] [] σ := rfl
theorem M_107 (a0 a1 a2 a3 a4 a5 a6 a7 : Value) (σ : mm_S) : mm_M 107 [a0, a1, a2, a3, a4, a5, a6, a7] σ = mm_L 107 0 [a0, a1, a2, a3, a4, a5, a6, a7, mm_un] [] σ := rfl
theorem M_108 (a0 a1 a2 a3 a4 a5 a6 : Value) (σ : mm_S) : mm_M 108 [a0, a1, a2, a3, a4, a5, a6] σ = mm_L 108 0 [a0, a1, a2, a3, a4, a5, a6, mm_un] [] σ := rfl
theorem M_109 (a0 a1 a2 a3 a4 a5 : Value) (σ : mm_S) : mm_M 109 [a0, a1, a2, a3, a4, a5] σ = mm_L 109 0 [a0, a1, a2, a3, a4, a5, mm_un] [] σ := rfl
theorem M_110 (a0 a1 a2 a3 a4 : Value) (σ : mm_S) : mm_M 110 [a0, a1, a2, a3, a4] σ = mm_L 110 0 [a0, a1, a2, a3, a4, mm_un, mm_un, mm_un, mm_un, mm_un, mm_un, mm_un, mm_un, mm_un] [] σ := rfl
theorem M_111 (σ : mm_S) : mm_M 111 [] σ = mm_L 111 0 [mm_un, mm_un, mm_un, mm_un] [] σ := rfl
theorem M_112 (a0 : Value) (σ : mm_S) : mm_M 112 [a0] σ = mm_L 112 0 [a0] [] σ := rfl
theorem M_113 (σ : mm_S) : mm_M 113 [] σ = mm_L 113 0 [mm_un, mm_un] [] σ := rfl
theorem M_114 (σ : mm_S) : mm_M 114 [] σ = mm_L 114 0 [mm_un, mm_un] [] σ := rfl
theorem M_115 (a0 : Value) (σ : mm_S) : mm_M 115 [a0] σ = mm_L 115 0 [a0, mm_un, mm_un, mm_un, mm_un, mm_un, mm_un, mm_un, mm_un, mm_un, mm_un] [] σ := rfl
section
variable {v : Value} {σ : mm_S} {y pc p0 E : Nat} {ls st : List Value} {x : Int32} {j : Int64}
theorem K0_v : mm_K0 (some (.inl (some v), σ)) y pc ls st = mm_L y pc ls (v :: st) σ := rfl
theorem K0_n : mm_K0 (some (.inl none, σ)) y pc ls st = mm_L y pc ls st σ := rfl
theorem K0_x : mm_K0 (some (.inr E, σ)) y pc ls st = some (.inr E, σ) := rfl
theorem K2_v : mm_K2 (some (.inl (some v), σ)) y pc ls st = mm_L y pc ls (v :: st) σ := rfl
theorem K2_n : mm_K2 (some (.inl none, σ)) y pc ls st = mm_L y pc ls st σ := rfl
theorem K1_v : mm_K1 (some (.inl (some v), σ)) y p0 pc ls st = mm_L y pc ls (v :: st) σ := rfl
theorem K1_n : mm_K1 (some (.inl none, σ)) y p0 pc ls st = mm_L y pc ls st σ := rfl
theorem K1_x : mm_K1 (some (.inr E, σ)) y p0 pc ls st = mm_cat mm_L y p0 ls E σ := rfl
theorem bI_s : mm_bI (some x) y pc ls st σ = mm_L y pc ls (.int x :: st) σ := rfl
theorem bJ_s : mm_bJ (some j) y pc ls st σ = mm_L y pc ls (.long j :: st) σ := rfl
theorem bV_s : mm_bV (some v) y pc ls st σ = mm_L y pc ls (v :: st) σ := rfl
theorem bS_s : mm_bS (some σ) y pc ls st = mm_L y pc ls st σ := rfl
end
theorem cat_y {y pc h n p E : Nat} {ls : List Value} {τ : mm_S} (h1 : mm_hd (mm_lh mm_hhs y) pc E = some h) (h2 : mm_hs y h = some (n, p)) (h3 : n < ls.length) : mm_cat mm_L y pc ls E τ = mm_L y p (ls.set n mm_un) [] τ := by
  unfold mm_cat
  rw [h1]
  show (mm_hs y h).bind _ = _
  rw [h2]
  exact if_pos h3
