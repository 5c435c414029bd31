theorem dX12_keptOf_11 : decode cX12_keptOf 11 = .ok (.invokevirtual 507, 3) := by decide +kernel
theorem dX12_keptOf_14 : decode cX12_keptOf 14 = .ok (.istore 4, 2) := by decide +kernel
theorem dX12_keptOf_16 : decode cX12_keptOf 16 = .ok (.iload 4, 2) := by decide +kernel
theorem dX12_keptOf_18 : decode cX12_keptOf 18 = .ok (.iconst (-1), 1) := by decide +kernel
theorem dX12_keptOf_19 : decode cX12_keptOf 19 = .ok (.if_icmp .ne 7, 3) := by decide +kernel
theorem dX12_keptOf_22 : decode cX12_keptOf 22 = .ok (.iconst 0, 1) := by decide +kernel
theorem dX12_keptOf_23 : decode cX12_keptOf 23 = .ok (.goto 10, 3) := by decide +kernel
theorem dX12_keptOf_26 : decode cX12_keptOf 26 = .ok (.aload_n 0, 1) := by decide +kernel
theorem dX12_keptOf_27 : decode cX12_keptOf 27 = .ok (.iload_n 3, 1) := by decide +kernel
theorem dX12_keptOf_28 : decode cX12_keptOf 28 = .ok (.iload 4, 2) := by decide +kernel
theorem dX12_keptOf_30 : decode cX12_keptOf 30 = .ok (.invokevirtual 497, 3) := by decide +kernel
theorem dX12_keptOf_33 : decode cX12_keptOf 33 = .ok (.ireturn, 1) := by decide +kernel
theorem dX12_second_0 : decode cX12_second 0 = .ok (.iload_n 1, 1) := by decide +kernel
theorem dX12_second_1 : decode cX12_second 1 = .ok (.i2l, 1) := by decide +kernel
theorem dX12_second_2 : decode cX12_second 2 = .ok (.lconst 1, 1) := by decide +kernel
theorem dX12_second_3 : decode cX12_second 3 = .ok (.ldc2_w 505, 3) := by decide +kernel
theorem dX12_second_6 : decode cX12_second 6 = .ok (.invokestatic 52, 3) := by decide +kernel
theorem dX12_second_9 : decode cX12_second 9 = .ok (.ifCond .eq 29, 3) := by decide +kernel
theorem dX12_second_12 : decode cX12_second 12 = .ok (.iload_n 2, 1) := by decide +kernel
theorem dX12_second_13 : decode cX12_second 13 = .ok (.invokestatic 502, 3) := by decide +kernel
theorem dX12_second_16 : decode cX12_second 16 = .ok (.ifCond .eq 22, 3) := by decide +kernel
theorem dX12_second_19 : decode cX12_second 19 = .ok (.aload_n 0, 1) := by decide +kernel
theorem dX12_second_20 : decode cX12_second 20 = .ok (.iload_n 3, 1) := by decide +kernel
theorem dX12_second_21 : decode cX12_second 21 = .ok (.invokevirtual 492, 3) := by decide +kernel
theorem dX12_second_24 : decode cX12_second 24 = .ok (.ifCond .eq 14, 3) := by decide +kernel
theorem dX12_second_27 : decode cX12_second 27 = .ok (.iload 4, 2) := by decide +kernel
theorem dX12_second_29 : decode cX12_second 29 = .ok (.i2l, 1) := by decide +kernel
theorem dX12_second_30 : decode cX12_second 30 = .ok (.lconst 0, 1) := by decide +kernel
theorem dX12_second_31 : decode cX12_second 31 = .ok (.lconst 1, 1) := by decide +kernel
theorem dX12_second_32 : decode cX12_second 32 = .ok (.invokestatic 52, 3) := by decide +kernel
theorem dX12_second_35 : decode cX12_second 35 = .ok (.ifCond .ne 6, 3) := by decide +kernel
theorem dX12_second_38 : decode cX12_second 38 = .ok (.bipush (-2), 2) := by decide +kernel
theorem dX12_second_40 : decode cX12_second 40 = .ok (.ireturn, 1) := by decide +kernel
theorem dX12_second_41 : decode cX12_second 41 = .ok (.iconst 0, 1) := by decide +kernel
theorem dX12_second_42 : decode cX12_second 42 = .ok (.istore 5, 2) := by decide +kernel
theorem dX12_second_44 : decode cX12_second 44 = .ok (.iconst (-1), 1) := by decide +kernel
theorem dX12_second_45 : decode cX12_second 45 = .ok (.istore 6, 2) := by decide +kernel
theorem dX12_second_47 : decode cX12_second 47 = .ok (.iconst 0, 1) := by decide +kernel
theorem dX12_second_48 : decode cX12_second 48 = .ok (.istore 7, 2) := by decide +kernel
theorem dX12_second_50 : decode cX12_second 50 = .ok (.iload 7, 2) := by decide +kernel
theorem dX12_second_52 : decode cX12_second 52 = .ok (.iload_n 1, 1) := by decide +kernel
theorem dX12_second_53 : decode cX12_second 53 = .ok (.iconst 2, 1) := by decide +kernel
theorem dX12_second_54 : decode cX12_second 54 = .ok (.idiv, 1) := by decide +kernel
theorem dX12_second_55 : decode cX12_second 55 = .ok (.if_icmp .gt 75, 3) := by decide +kernel
theorem dX12_second_58 : decode cX12_second 58 = .ok (.aload_n 0, 1) := by decide +kernel
theorem dX12_second_59 : decode cX12_second 59 = .ok (.iload_n 2, 1) := by decide +kernel
theorem dX12_second_60 : decode cX12_second 60 = .ok (.iload_n 1, 1) := by decide +kernel
theorem dX12_second_61 : decode cX12_second 61 = .ok (.iload 7, 2) := by decide +kernel
theorem dX12_second_63 : decode cX12_second 63 = .ok (.isub, 1) := by decide +kernel
theorem dX12_second_64 : decode cX12_second 64 = .ok (.iload_n 3, 1) := by decide +kernel
theorem dX12_second_65 : decode cX12_second 65 = .ok (.invokevirtual 510, 3) := by decide +kernel
theorem dX12_second_68 : decode cX12_second 68 = .ok (.i2l, 1) := by decide +kernel
theorem dX12_second_69 : decode cX12_second 69 = .ok (.lstore 8, 2) := by decide +kernel
theorem dX12_second_71 : decode cX12_second 71 = .ok (.aload_n 0, 1) := by decide +kernel
theorem dX12_second_72 : decode cX12_second 72 = .ok (.iload_n 2, 1) := by decide +kernel
theorem dX12_second_73 : decode cX12_second 73 = .ok (.iload 7, 2) := by decide +kernel
theorem dX12_second_75 : decode cX12_second 75 = .ok (.iload_n 3, 1) := by decide +kernel
theorem dX12_second_76 : decode cX12_second 76 = .ok (.invokevirtual 510, 3) := by decide +kernel
theorem dX12_second_79 : decode cX12_second 79 = .ok (.i2l, 1) := by decide +kernel
theorem dX12_second_80 : decode cX12_second 80 = .ok (.lstore 10, 2) := by decide +kernel
theorem dX12_second_82 : decode cX12_second 82 = .ok (.ldc2_w 514, 3) := by decide +kernel
theorem dX12_second_85 : decode cX12_second 85 = .ok (.ldc2_w 514, 3) := by decide +kernel
theorem dX12_second_88 : decode cX12_second 88 = .ok (.lload 8, 2) := by decide +kernel
theorem dX12_second_90 : decode cX12_second 90 = .ok (.lsub, 1) := by decide +kernel
theorem dX12_second_91 : decode cX12_second 91 = .ok (.ldc2_w 514, 3) := by decide +kernel
theorem dX12_second_94 : decode cX12_second 94 = .ok (.lload 10, 2) := by decide +kernel
theorem dX12_second_96 : decode cX12_second 96 = .ok (.lsub, 1) := by decide +kernel
theorem dX12_second_97 : decode cX12_second 97 = .ok (.lmul, 1) := by decide +kernel
theorem dX12_second_98 : decode cX12_second 98 = .ok (.ldc2_w 514, 3) := by decide +kernel
theorem dX12_second_101 : decode cX12_second 101 = .ok (.ldiv, 1) := by decide +kernel
theorem dX12_second_102 : decode cX12_second 102 = .ok (.lsub, 1) := by decide +kernel
theorem dX12_second_103 : decode cX12_second 103 = .ok (.l2i, 1) := by decide +kernel
theorem dX12_second_104 : decode cX12_second 104 = .ok (.istore 12, 2) := by decide +kernel
theorem dX12_second_106 : decode cX12_second 106 = .ok (.iload 12, 2) := by decide +kernel
theorem dX12_second_108 : decode cX12_second 108 = .ok (.iload 6, 2) := by decide +kernel
theorem dX12_second_110 : decode cX12_second 110 = .ok (.if_icmp .gt 6, 3) := by decide +kernel
theorem dX12_second_113 : decode cX12_second 113 = .ok (.goto 11, 3) := by decide +kernel
theorem dX12_second_116 : decode cX12_second 116 = .ok (.iload 12, 2) := by decide +kernel
theorem dX12_second_118 : decode cX12_second 118 = .ok (.istore 6, 2) := by decide +kernel
theorem dX12_second_120 : decode cX12_second 120 = .ok (.iload 7, 2) := by decide +kernel
theorem dX12_second_122 : decode cX12_second 122 = .ok (.istore 5, 2) := by decide +kernel
theorem dX12_second_124 : decode cX12_second 124 = .ok (.iinc 7 1, 3) := by decide +kernel
theorem dX12_second_127 : decode cX12_second 127 = .ok (.goto (-77), 3) := by decide +kernel
theorem dX12_second_130 : decode cX12_second 130 = .ok (.iload 4, 2) := by decide +kernel
theorem dX12_second_132 : decode cX12_second 132 = .ok (.ifCond .ne 8, 3) := by decide +kernel
theorem dX12_second_135 : decode cX12_second 135 = .ok (.iload 5, 2) := by decide +kernel
theorem dX12_second_137 : decode cX12_second 137 = .ok (.goto 5, 3) := by decide +kernel
theorem dX12_second_140 : decode cX12_second 140 = .ok (.iload 6, 2) := by decide +kernel
theorem dX12_second_142 : decode cX12_second 142 = .ok (.ireturn, 1) := by decide +kernel
theorem dX12_drift_0 : decode cX12_drift 0 = .ok (.iload_n 1, 1) := by decide +kernel
theorem dX12_drift_1 : decode cX12_drift 1 = .ok (.i2l, 1) := by decide +kernel
theorem dX12_drift_2 : decode cX12_drift 2 = .ok (.lconst 0, 1) := by decide +kernel
theorem dX12_drift_3 : decode cX12_drift 3 = .ok (.ldc2_w 394, 3) := by decide +kernel
theorem dX12_drift_6 : decode cX12_drift 6 = .ok (.invokestatic 52, 3) := by decide +kernel
theorem dX12_drift_9 : decode cX12_drift 9 = .ok (.ifCond .ne 6, 3) := by decide +kernel
theorem dX12_drift_12 : decode cX12_drift 12 = .ok (.bipush (-2), 2) := by decide +kernel
theorem dX12_drift_14 : decode cX12_drift 14 = .ok (.ireturn, 1) := by decide +kernel
theorem dX12_drift_15 : decode cX12_drift 15 = .ok (.aload_n 0, 1) := by decide +kernel
theorem dX12_drift_16 : decode cX12_drift 16 = .ok (.getfield 385, 3) := by decide +kernel
theorem dX12_drift_19 : decode cX12_drift 19 = .ok (.istore_n 2, 1) := by decide +kernel
theorem dX12_drift_20 : decode cX12_drift 20 = .ok (.aload_n 0, 1) := by decide +kernel
theorem dX12_drift_21 : decode cX12_drift 21 = .ok (.iload_n 1, 1) := by decide +kernel
theorem dX12_drift_22 : decode cX12_drift 22 = .ok (.putfield 385, 3) := by decide +kernel
theorem dX12_drift_25 : decode cX12_drift 25 = .ok (.iload_n 2, 1) := by decide +kernel
theorem dX12_drift_26 : decode cX12_drift 26 = .ok (.ireturn, 1) := by decide +kernel
theorem dX12_string_0 : decode cX12_string 0 = .ok (.iload_n 1, 1) := by decide +kernel
theorem dX12_string_1 : decode cX12_string 1 = .ok (.i2l, 1) := by decide +kernel
theorem dX12_string_2 : decode cX12_string 2 = .ok (.aload_n 0, 1) := by decide +kernel
theorem dX12_string_3 : decode cX12_string 3 = .ok (.getfield 382, 3) := by decide +kernel
theorem dX12_string_6 : decode cX12_string 6 = .ok (.i2l, 1) := by decide +kernel
theorem dX12_string_7 : decode cX12_string 7 = .ok (.ldc2_w 500, 3) := by decide +kernel
theorem dX12_string_10 : decode cX12_string 10 = .ok (.invokestatic 52, 3) := by decide +kernel
theorem dX12_string_13 : decode cX12_string 13 = .ok (.ifCond .eq 40, 3) := by decide +kernel
theorem dX12_string_16 : decode cX12_string 16 = .ok (.iload_n 2, 1) := by decide +kernel
theorem dX12_string_17 : decode cX12_string 17 = .ok (.i2l, 1) := by decide +kernel
theorem dX12_string_18 : decode cX12_string 18 = .ok (.lconst 1, 1) := by decide +kernel
theorem dX12_string_19 : decode cX12_string 19 = .ok (.ldc2_w 431, 3) := by decide +kernel
theorem dX12_string_22 : decode cX12_string 22 = .ok (.invokestatic 52, 3) := by decide +kernel
theorem dX12_string_25 : decode cX12_string 25 = .ok (.ifCond .eq 28, 3) := by decide +kernel
theorem dX12_string_28 : decode cX12_string 28 = .ok (.iload_n 3, 1) := by decide +kernel
theorem dX12_string_29 : decode cX12_string 29 = .ok (.i2l, 1) := by decide +kernel
theorem dX12_string_30 : decode cX12_string 30 = .ok (.lconst 0, 1) := by decide +kernel
theorem dX12_string_31 : decode cX12_string 31 = .ok (.ldc2_w 516, 3) := by decide +kernel
theorem dX12_string_34 : decode cX12_string 34 = .ok (.invokestatic 52, 3) := by decide +kernel
theorem dX12_string_37 : decode cX12_string 37 = .ok (.ifCond .eq 16, 3) := by decide +kernel
theorem dX12_string_40 : decode cX12_string 40 = .ok (.iload 4, 2) := by decide +kernel
theorem dX12_string_42 : decode cX12_string 42 = .ok (.i2l, 1) := by decide +kernel
theorem dX12_string_43 : decode cX12_string 43 = .ok (.lconst 0, 1) := by decide +kernel
theorem dX12_string_44 : decode cX12_string 44 = .ok (.ldc2_w 518, 3) := by decide +kernel
theorem dX12_string_47 : decode cX12_string 47 = .ok (.invokestatic 52, 3) := by decide +kernel
theorem dX12_string_50 : decode cX12_string 50 = .ok (.ifCond .ne 6, 3) := by decide +kernel
theorem dX12_string_53 : decode cX12_string 53 = .ok (.bipush (-2), 2) := by decide +kernel
theorem dX12_string_55 : decode cX12_string 55 = .ok (.ireturn, 1) := by decide +kernel
theorem dX12_string_56 : decode cX12_string 56 = .ok (.aload_n 0, 1) := by decide +kernel
theorem dX12_string_57 : decode cX12_string 57 = .ok (.getfield 376, 3) := by decide +kernel
theorem dX12_string_60 : decode cX12_string 60 = .ok (.bipush 16, 2) := by decide +kernel
theorem dX12_string_62 : decode cX12_string 62 = .ok (.if_icmp .ne 6, 3) := by decide +kernel
theorem dX12_string_65 : decode cX12_string 65 = .ok (.bipush (-3), 2) := by decide +kernel
theorem dX12_string_67 : decode cX12_string 67 = .ok (.ireturn, 1) := by decide +kernel
theorem dX12_string_68 : decode cX12_string 68 = .ok (.aload_n 0, 1) := by decide +kernel
theorem dX12_string_69 : decode cX12_string 69 = .ok (.iload_n 1, 1) := by decide +kernel
theorem dX12_string_70 : decode cX12_string 70 = .ok (.putfield 382, 3) := by decide +kernel
theorem dX12_string_73 : decode cX12_string 73 = .ok (.aload_n 0, 1) := by decide +kernel
theorem dX12_string_74 : decode cX12_string 74 = .ok (.getfield 303, 3) := by decide +kernel
theorem dX12_string_77 : decode cX12_string 77 = .ok (.aload_n 0, 1) := by decide +kernel
theorem dX12_string_78 : decode cX12_string 78 = .ok (.getfield 376, 3) := by decide +kernel
theorem dX12_string_81 : decode cX12_string 81 = .ok (.iload_n 2, 1) := by decide +kernel
theorem dX12_string_82 : decode cX12_string 82 = .ok (.iastore, 1) := by decide +kernel
theorem dX12_string_83 : decode cX12_string 83 = .ok (.aload_n 0, 1) := by decide +kernel
theorem dX12_string_84 : decode cX12_string 84 = .ok (.getfield 306, 3) := by decide +kernel
theorem dX12_string_87 : decode cX12_string 87 = .ok (.aload_n 0, 1) := by decide +kernel
theorem dX12_string_88 : decode cX12_string 88 = .ok (.getfield 376, 3) := by decide +kernel
theorem dX12_string_91 : decode cX12_string 91 = .ok (.iload_n 3, 1) := by decide +kernel
theorem dX12_string_92 : decode cX12_string 92 = .ok (.iastore, 1) := by decide +kernel
theorem dX12_string_93 : decode cX12_string 93 = .ok (.aload_n 0, 1) := by decide +kernel
theorem dX12_string_94 : decode cX12_string 94 = .ok (.getfield 309, 3) := by decide +kernel
theorem dX12_string_97 : decode cX12_string 97 = .ok (.aload_n 0, 1) := by decide +kernel
theorem dX12_string_98 : decode cX12_string 98 = .ok (.getfield 376, 3) := by decide +kernel
theorem dX12_string_101 : decode cX12_string 101 = .ok (.iload 4, 2) := by decide +kernel
theorem dX12_string_103 : decode cX12_string 103 = .ok (.iastore, 1) := by decide +kernel
theorem dX12_string_104 : decode cX12_string 104 = .ok (.aload_n 0, 1) := by decide +kernel
theorem dX12_string_105 : decode cX12_string 105 = .ok (.getfield 312, 3) := by decide +kernel
theorem dX12_string_108 : decode cX12_string 108 = .ok (.aload_n 0, 1) := by decide +kernel
theorem dX12_string_109 : decode cX12_string 109 = .ok (.getfield 376, 3) := by decide +kernel
theorem dX12_string_112 : decode cX12_string 112 = .ok (.iload_n 1, 1) := by decide +kernel
theorem dX12_string_113 : decode cX12_string 113 = .ok (.iastore, 1) := by decide +kernel
theorem dX12_string_114 : decode cX12_string 114 = .ok (.aload_n 0, 1) := by decide +kernel
theorem dX12_string_115 : decode cX12_string 115 = .ok (.dup, 1) := by decide +kernel
theorem dX12_string_116 : decode cX12_string 116 = .ok (.getfield 376, 3) := by decide +kernel
theorem dX12_string_119 : decode cX12_string 119 = .ok (.iconst 1, 1) := by decide +kernel
theorem dX12_string_120 : decode cX12_string 120 = .ok (.iadd, 1) := by decide +kernel
theorem dX12_string_121 : decode cX12_string 121 = .ok (.putfield 376, 3) := by decide +kernel
theorem dX12_string_124 : decode cX12_string 124 = .ok (.aload_n 0, 1) := by decide +kernel
theorem dX12_string_125 : decode cX12_string 125 = .ok (.getfield 376, 3) := by decide +kernel
theorem dX12_string_128 : decode cX12_string 128 = .ok (.iconst 1, 1) := by decide +kernel
theorem dX12_string_129 : decode cX12_string 129 = .ok (.isub, 1) := by decide +kernel
theorem dX12_string_130 : decode cX12_string 130 = .ok (.ireturn, 1) := by decide +kernel
theorem dX12_right_0 : decode cX12_right 0 = .ok (.iload_n 1, 1) := by decide +kernel
theorem dX12_right_1 : decode cX12_right 1 = .ok (.i2l, 1) := by decide +kernel
theorem dX12_right_2 : decode cX12_right 2 = .ok (.aload_n 0, 1) := by decide +kernel
theorem dX12_right_3 : decode cX12_right 3 = .ok (.getfield 382, 3) := by decide +kernel
theorem dX12_right_6 : decode cX12_right 6 = .ok (.i2l, 1) := by decide +kernel
theorem dX12_right_7 : decode cX12_right 7 = .ok (.ldc2_w 500, 3) := by decide +kernel
theorem dX12_right_10 : decode cX12_right 10 = .ok (.invokestatic 52, 3) := by decide +kernel
theorem dX12_right_13 : decode cX12_right 13 = .ok (.ifCond .eq 31, 3) := by decide +kernel
theorem dX12_right_16 : decode cX12_right 16 = .ok (.iload_n 2, 1) := by decide +kernel
theorem dX12_right_17 : decode cX12_right 17 = .ok (.i2l, 1) := by decide +kernel
theorem dX12_right_18 : decode cX12_right 18 = .ok (.lconst 0, 1) := by decide +kernel
theorem dX12_right_19 : decode cX12_right 19 = .ok (.aload_n 0, 1) := by decide +kernel
theorem dX12_right_20 : decode cX12_right 20 = .ok (.getfield 376, 3) := by decide +kernel
theorem dX12_right_23 : decode cX12_right 23 = .ok (.i2l, 1) := by decide +kernel
theorem dX12_right_24 : decode cX12_right 24 = .ok (.lconst 1, 1) := by decide +kernel
theorem dX12_right_25 : decode cX12_right 25 = .ok (.lsub, 1) := by decide +kernel
theorem dX12_right_26 : decode cX12_right 26 = .ok (.invokestatic 52, 3) := by decide +kernel
theorem dX12_right_29 : decode cX12_right 29 = .ok (.ifCond .eq 15, 3) := by decide +kernel
theorem dX12_right_32 : decode cX12_right 32 = .ok (.iload_n 3, 1) := by decide +kernel
theorem dX12_right_33 : decode cX12_right 33 = .ok (.i2l, 1) := by decide +kernel
theorem dX12_right_34 : decode cX12_right 34 = .ok (.lconst 1, 1) := by decide +kernel
theorem dX12_right_35 : decode cX12_right 35 = .ok (.ldc2_w 431, 3) := by decide +kernel
theorem dX12_right_38 : decode cX12_right 38 = .ok (.invokestatic 52, 3) := by decide +kernel
theorem dX12_right_41 : decode cX12_right 41 = .ok (.ifCond .ne 6, 3) := by decide +kernel
theorem dX12_right_44 : decode cX12_right 44 = .ok (.bipush (-2), 2) := by decide +kernel
theorem dX12_right_46 : decode cX12_right 46 = .ok (.ireturn, 1) := by decide +kernel
theorem dX12_right_47 : decode cX12_right 47 = .ok (.aload_n 0, 1) := by decide +kernel
theorem dX12_right_48 : decode cX12_right 48 = .ok (.getfield 379, 3) := by decide +kernel
theorem dX12_right_51 : decode cX12_right 51 = .ok (.bipush 20, 2) := by decide +kernel
theorem dX12_right_53 : decode cX12_right 53 = .ok (.if_icmp .ne 6, 3) := by decide +kernel
theorem dX12_right_56 : decode cX12_right 56 = .ok (.bipush (-3), 2) := by decide +kernel
theorem dX12_right_58 : decode cX12_right 58 = .ok (.ireturn, 1) := by decide +kernel
theorem dX12_right_59 : decode cX12_right 59 = .ok (.aload_n 0, 1) := by decide +kernel
theorem dX12_right_60 : decode cX12_right 60 = .ok (.iload_n 1, 1) := by decide +kernel
theorem dX12_right_61 : decode cX12_right 61 = .ok (.putfield 382, 3) := by decide +kernel
theorem dX12_right_64 : decode cX12_right 64 = .ok (.aload_n 0, 1) := by decide +kernel
theorem dX12_right_65 : decode cX12_right 65 = .ok (.getfield 315, 3) := by decide +kernel
theorem dX12_right_68 : decode cX12_right 68 = .ok (.aload_n 0, 1) := by decide +kernel
theorem dX12_right_69 : decode cX12_right 69 = .ok (.getfield 379, 3) := by decide +kernel
theorem dX12_right_72 : decode cX12_right 72 = .ok (.iload_n 2, 1) := by decide +kernel
theorem dX12_right_73 : decode cX12_right 73 = .ok (.iastore, 1) := by decide +kernel
theorem dX12_right_74 : decode cX12_right 74 = .ok (.aload_n 0, 1) := by decide +kernel
theorem dX12_right_75 : decode cX12_right 75 = .ok (.getfield 318, 3) := by decide +kernel
theorem dX12_right_78 : decode cX12_right 78 = .ok (.aload_n 0, 1) := by decide +kernel
theorem dX12_right_79 : decode cX12_right 79 = .ok (.getfield 379, 3) := by decide +kernel
theorem dX12_right_82 : decode cX12_right 82 = .ok (.iload_n 3, 1) := by decide +kernel
theorem dX12_right_83 : decode cX12_right 83 = .ok (.iastore, 1) := by decide +kernel
theorem dX12_right_84 : decode cX12_right 84 = .ok (.aload_n 0, 1) := by decide +kernel
theorem dX12_right_85 : decode cX12_right 85 = .ok (.getfield 321, 3) := by decide +kernel
theorem dX12_right_88 : decode cX12_right 88 = .ok (.aload_n 0, 1) := by decide +kernel
theorem dX12_right_89 : decode cX12_right 89 = .ok (.getfield 379, 3) := by decide +kernel
theorem dX12_right_92 : decode cX12_right 92 = .ok (.iload_n 1, 1) := by decide +kernel
theorem dX12_right_93 : decode cX12_right 93 = .ok (.iastore, 1) := by decide +kernel
theorem dX12_right_94 : decode cX12_right 94 = .ok (.aload_n 0, 1) := by decide +kernel
theorem dX12_right_95 : decode cX12_right 95 = .ok (.dup, 1) := by decide +kernel
theorem dX12_right_96 : decode cX12_right 96 = .ok (.getfield 379, 3) := by decide +kernel
theorem dX12_right_99 : decode cX12_right 99 = .ok (.iconst 1, 1) := by decide +kernel
theorem dX12_right_100 : decode cX12_right 100 = .ok (.iadd, 1) := by decide +kernel
theorem dX12_right_101 : decode cX12_right 101 = .ok (.putfield 379, 3) := by decide +kernel
theorem dX12_right_104 : decode cX12_right 104 = .ok (.iconst 0, 1) := by decide +kernel
theorem dX12_right_105 : decode cX12_right 105 = .ok (.istore 4, 2) := by decide +kernel
theorem dX12_right_107 : decode cX12_right 107 = .ok (.iconst 0, 1) := by decide +kernel
theorem dX12_right_108 : decode cX12_right 108 = .ok (.istore 5, 2) := by decide +kernel
theorem dX12_right_110 : decode cX12_right 110 = .ok (.iload 5, 2) := by decide +kernel
theorem dX12_right_112 : decode cX12_right 112 = .ok (.aload_n 0, 1) := by decide +kernel
theorem dX12_right_113 : decode cX12_right 113 = .ok (.getfield 379, 3) := by decide +kernel
theorem dX12_right_116 : decode cX12_right 116 = .ok (.if_icmp .ge 30, 3) := by decide +kernel
theorem dX12_right_119 : decode cX12_right 119 = .ok (.iload 4, 2) := by decide +kernel
theorem dX12_right_121 : decode cX12_right 121 = .ok (.aload_n 0, 1) := by decide +kernel
theorem dX12_right_122 : decode cX12_right 122 = .ok (.getfield 315, 3) := by decide +kernel
theorem dX12_right_125 : decode cX12_right 125 = .ok (.iload 5, 2) := by decide +kernel
theorem dX12_right_127 : decode cX12_right 127 = .ok (.iaload, 1) := by decide +kernel
theorem dX12_right_128 : decode cX12_right 128 = .ok (.iload_n 2, 1) := by decide +kernel
theorem dX12_right_129 : decode cX12_right 129 = .ok (.if_icmp .ne 7, 3) := by decide +kernel
theorem dX12_right_132 : decode cX12_right 132 = .ok (.iconst 1, 1) := by decide +kernel
theorem dX12_right_133 : decode cX12_right 133 = .ok (.goto 4, 3) := by decide +kernel
theorem dX12_right_136 : decode cX12_right 136 = .ok (.iconst 0, 1) := by decide +kernel
theorem dX12_right_137 : decode cX12_right 137 = .ok (.iadd, 1) := by decide +kernel
theorem dX12_right_138 : decode cX12_right 138 = .ok (.istore 4, 2) := by decide +kernel
theorem dX12_right_140 : decode cX12_right 140 = .ok (.iinc 5 1, 3) := by decide +kernel
theorem dX12_right_143 : decode cX12_right 143 = .ok (.goto (-33), 3) := by decide +kernel
theorem dX12_right_146 : decode cX12_right 146 = .ok (.iload 4, 2) := by decide +kernel
theorem dX12_right_148 : decode cX12_right 148 = .ok (.ireturn, 1) := by decide +kernel
theorem dX12_along_0 : decode cX12_along 0 = .ok (.iload_n 0, 1) := by decide +kernel
theorem dX12_along_1 : decode cX12_along 1 = .ok (.ifCond .ne 8, 3) := by decide +kernel
theorem dX12_along_4 : decode cX12_along 4 = .ok (.bipush 10, 2) := by decide +kernel
theorem dX12_along_6 : decode cX12_along 6 = .ok (.goto 46, 3) := by decide +kernel
theorem dX12_along_9 : decode cX12_along 9 = .ok (.iload_n 0, 1) := by decide +kernel
theorem dX12_along_10 : decode cX12_along 10 = .ok (.iconst 4, 1) := by decide +kernel
theorem dX12_along_11 : decode cX12_along 11 = .ok (.if_icmp .ne 8, 3) := by decide +kernel
theorem dX12_along_14 : decode cX12_along 14 = .ok (.bipush (-10), 2) := by decide +kernel
theorem dX12_along_16 : decode cX12_along 16 = .ok (.goto 36, 3) := by decide +kernel
theorem dX12_along_19 : decode cX12_along 19 = .ok (.iload_n 0, 1) := by decide +kernel
theorem dX12_along_20 : decode cX12_along 20 = .ok (.iconst 2, 1) := by decide +kernel
theorem dX12_along_21 : decode cX12_along 21 = .ok (.if_icmp .eq 9, 3) := by decide +kernel
theorem dX12_along_24 : decode cX12_along 24 = .ok (.iload_n 0, 1) := by decide +kernel
theorem dX12_along_25 : decode cX12_along 25 = .ok (.bipush 6, 2) := by decide +kernel
theorem dX12_along_27 : decode cX12_along 27 = .ok (.if_icmp .ne 7, 3) := by decide +kernel
theorem dX12_along_30 : decode cX12_along 30 = .ok (.iconst 0, 1) := by decide +kernel
theorem dX12_along_31 : decode cX12_along 31 = .ok (.goto 21, 3) := by decide +kernel
theorem dX12_along_34 : decode cX12_along 34 = .ok (.iload_n 0, 1) := by decide +kernel
theorem dX12_along_35 : decode cX12_along 35 = .ok (.iconst 1, 1) := by decide +kernel
theorem dX12_along_36 : decode cX12_along 36 = .ok (.if_icmp .eq 9, 3) := by decide +kernel
theorem dX12_along_39 : decode cX12_along 39 = .ok (.iload_n 0, 1) := by decide +kernel
theorem dX12_along_40 : decode cX12_along 40 = .ok (.bipush 7, 2) := by decide +kernel
theorem dX12_along_42 : decode cX12_along 42 = .ok (.if_icmp .ne 8, 3) := by decide +kernel
theorem dX12_along_45 : decode cX12_along 45 = .ok (.bipush 7, 2) := by decide +kernel
theorem dX12_along_47 : decode cX12_along 47 = .ok (.goto 5, 3) := by decide +kernel
theorem dX12_along_50 : decode cX12_along 50 = .ok (.bipush (-7), 2) := by decide +kernel
theorem dX12_along_52 : decode cX12_along 52 = .ok (.ireturn, 1) := by decide +kernel
theorem dX12_findEnd_0 : decode cX12_findEnd 0 = .ok (.aload_n 0, 1) := by decide +kernel
theorem dX12_findEnd_1 : decode cX12_findEnd 1 = .ok (.iconst 0, 1) := by decide +kernel
theorem dX12_findEnd_2 : decode cX12_findEnd 2 = .ok (.putfield 520, 3) := by decide +kernel
theorem dX12_findEnd_5 : decode cX12_findEnd 5 = .ok (.aload_n 0, 1) := by decide +kernel
theorem dX12_findEnd_6 : decode cX12_findEnd 6 = .ok (.iconst 0, 1) := by decide +kernel
theorem dX12_findEnd_7 : decode cX12_findEnd 7 = .ok (.putfield 523, 3) := by decide +kernel
theorem dX12_findEnd_10 : decode cX12_findEnd 10 = .ok (.aload_n 0, 1) := by decide +kernel
theorem dX12_findEnd_11 : decode cX12_findEnd 11 = .ok (.iconst 0, 1) := by decide +kernel
theorem dX12_findEnd_12 : decode cX12_findEnd 12 = .ok (.putfield 526, 3) := by decide +kernel
theorem dX12_findEnd_15 : decode cX12_findEnd 15 = .ok (.iconst 0, 1) := by decide +kernel
theorem dX12_findEnd_16 : decode cX12_findEnd 16 = .ok (.istore_n 2, 1) := by decide +kernel
theorem dX12_findEnd_17 : decode cX12_findEnd 17 = .ok (.iconst 0, 1) := by decide +kernel
theorem dX12_findEnd_18 : decode cX12_findEnd 18 = .ok (.istore_n 3, 1) := by decide +kernel
theorem dX12_findEnd_19 : decode cX12_findEnd 19 = .ok (.iload_n 3, 1) := by decide +kernel
theorem dX12_findEnd_20 : decode cX12_findEnd 20 = .ok (.aload_n 0, 1) := by decide +kernel
theorem dX12_findEnd_21 : decode cX12_findEnd 21 = .ok (.getfield 376, 3) := by decide +kernel
theorem dX12_findEnd_24 : decode cX12_findEnd 24 = .ok (.if_icmp .ge 155, 3) := by decide +kernel
theorem dX12_findEnd_27 : decode cX12_findEnd 27 = .ok (.aload_n 0, 1) := by decide +kernel
theorem dX12_findEnd_28 : decode cX12_findEnd 28 = .ok (.getfield 312, 3) := by decide +kernel
theorem dX12_findEnd_31 : decode cX12_findEnd 31 = .ok (.iload_n 3, 1) := by decide +kernel
theorem dX12_findEnd_32 : decode cX12_findEnd 32 = .ok (.iaload, 1) := by decide +kernel
theorem dX12_findEnd_33 : decode cX12_findEnd 33 = .ok (.iload_n 1, 1) := by decide +kernel
theorem dX12_findEnd_34 : decode cX12_findEnd 34 = .ok (.if_icmp .le 6, 3) := by decide +kernel
theorem dX12_findEnd_37 : decode cX12_findEnd 37 = .ok (.goto 136, 3) := by decide +kernel
theorem dX12_findEnd_40 : decode cX12_findEnd 40 = .ok (.aload_n 0, 1) := by decide +kernel
theorem dX12_findEnd_41 : decode cX12_findEnd 41 = .ok (.getfield 303, 3) := by decide +kernel
theorem dX12_findEnd_44 : decode cX12_findEnd 44 = .ok (.iload_n 3, 1) := by decide +kernel
theorem dX12_findEnd_45 : decode cX12_findEnd 45 = .ok (.iaload, 1) := by decide +kernel
theorem dX12_findEnd_46 : decode cX12_findEnd 46 = .ok (.istore 4, 2) := by decide +kernel
theorem dX12_findEnd_48 : decode cX12_findEnd 48 = .ok (.iconst 0, 1) := by decide +kernel
theorem dX12_findEnd_49 : decode cX12_findEnd 49 = .ok (.istore 5, 2) := by decide +kernel
theorem dX12_findEnd_51 : decode cX12_findEnd 51 = .ok (.iload 5, 2) := by decide +kernel
theorem dX12_findEnd_53 : decode cX12_findEnd 53 = .ok (.aload_n 0, 1) := by decide +kernel
theorem dX12_findEnd_54 : decode cX12_findEnd 54 = .ok (.getfield 379, 3) := by decide +kernel
theorem dX12_findEnd_57 : decode cX12_findEnd 57 = .ok (.if_icmp .ge 40, 3) := by decide +kernel
theorem dX12_findEnd_60 : decode cX12_findEnd 60 = .ok (.aload_n 0, 1) := by decide +kernel
theorem dX12_findEnd_61 : decode cX12_findEnd 61 = .ok (.getfield 315, 3) := by decide +kernel
theorem dX12_findEnd_64 : decode cX12_findEnd 64 = .ok (.iload 5, 2) := by decide +kernel
theorem dX12_findEnd_66 : decode cX12_findEnd 66 = .ok (.iaload, 1) := by decide +kernel
theorem dX12_findEnd_67 : decode cX12_findEnd 67 = .ok (.iload_n 3, 1) := by decide +kernel
theorem dX12_findEnd_68 : decode cX12_findEnd 68 = .ok (.if_icmp .ne 23, 3) := by decide +kernel
theorem dX12_findEnd_71 : decode cX12_findEnd 71 = .ok (.aload_n 0, 1) := by decide +kernel
theorem dX12_findEnd_72 : decode cX12_findEnd 72 = .ok (.getfield 321, 3) := by decide +kernel
theorem dX12_findEnd_75 : decode cX12_findEnd 75 = .ok (.iload 5, 2) := by decide +kernel
theorem dX12_findEnd_77 : decode cX12_findEnd 77 = .ok (.iaload, 1) := by decide +kernel
theorem dX12_findEnd_78 : decode cX12_findEnd 78 = .ok (.iload_n 1, 1) := by decide +kernel
theorem dX12_findEnd_79 : decode cX12_findEnd 79 = .ok (.if_icmp .gt 12, 3) := by decide +kernel
theorem dX12_findEnd_82 : decode cX12_findEnd 82 = .ok (.aload_n 0, 1) := by decide +kernel
theorem dX12_findEnd_83 : decode cX12_findEnd 83 = .ok (.getfield 318, 3) := by decide +kernel
theorem dX12_findEnd_86 : decode cX12_findEnd 86 = .ok (.iload 5, 2) := by decide +kernel
theorem dX12_findEnd_88 : decode cX12_findEnd 88 = .ok (.iaload, 1) := by decide +kernel
theorem dX12_findEnd_89 : decode cX12_findEnd 89 = .ok (.istore 4, 2) := by decide +kernel
theorem dX12_findEnd_91 : decode cX12_findEnd 91 = .ok (.iinc 5 1, 3) := by decide +kernel
theorem dX12_findEnd_94 : decode cX12_findEnd 94 = .ok (.goto (-43), 3) := by decide +kernel
theorem dX12_findEnd_97 : decode cX12_findEnd 97 = .ok (.aload_n 0, 1) := by decide +kernel
theorem dX12_findEnd_98 : decode cX12_findEnd 98 = .ok (.dup, 1) := by decide +kernel
theorem dX12_findEnd_99 : decode cX12_findEnd 99 = .ok (.getfield 520, 3) := by decide +kernel
theorem dX12_findEnd_102 : decode cX12_findEnd 102 = .ok (.iload 4, 2) := by decide +kernel
theorem dX12_findEnd_104 : decode cX12_findEnd 104 = .ok (.aload_n 0, 1) := by decide +kernel
theorem dX12_findEnd_105 : decode cX12_findEnd 105 = .ok (.getfield 306, 3) := by decide +kernel
theorem dX12_findEnd_108 : decode cX12_findEnd 108 = .ok (.iload_n 3, 1) := by decide +kernel
theorem dX12_findEnd_109 : decode cX12_findEnd 109 = .ok (.iaload, 1) := by decide +kernel
theorem dX12_findEnd_110 : decode cX12_findEnd 110 = .ok (.invokestatic 529, 3) := by decide +kernel
theorem dX12_findEnd_113 : decode cX12_findEnd 113 = .ok (.imul, 1) := by decide +kernel
theorem dX12_findEnd_114 : decode cX12_findEnd 114 = .ok (.iadd, 1) := by decide +kernel
theorem dX12_findEnd_115 : decode cX12_findEnd 115 = .ok (.putfield 520, 3) := by decide +kernel
theorem dX12_findEnd_118 : decode cX12_findEnd 118 = .ok (.aload_n 0, 1) := by decide +kernel
theorem dX12_findEnd_119 : decode cX12_findEnd 119 = .ok (.dup, 1) := by decide +kernel
theorem dX12_findEnd_120 : decode cX12_findEnd 120 = .ok (.getfield 523, 3) := by decide +kernel
theorem dX12_findEnd_123 : decode cX12_findEnd 123 = .ok (.iload 4, 2) := by decide +kernel
theorem dX12_findEnd_125 : decode cX12_findEnd 125 = .ok (.aload_n 0, 1) := by decide +kernel
theorem dX12_findEnd_126 : decode cX12_findEnd 126 = .ok (.getfield 306, 3) := by decide +kernel
theorem dX12_findEnd_129 : decode cX12_findEnd 129 = .ok (.iload_n 3, 1) := by decide +kernel
theorem dX12_findEnd_130 : decode cX12_findEnd 130 = .ok (.iaload, 1) := by decide +kernel
theorem dX12_findEnd_131 : decode cX12_findEnd 131 = .ok (.bipush 6, 2) := by decide +kernel
theorem dX12_findEnd_133 : decode cX12_findEnd 133 = .ok (.iadd, 1) := by decide +kernel
theorem dX12_findEnd_134 : decode cX12_findEnd 134 = .ok (.bipush 8, 2) := by decide +kernel
theorem dX12_findEnd_136 : decode cX12_findEnd 136 = .ok (.irem, 1) := by decide +kernel
theorem dX12_findEnd_137 : decode cX12_findEnd 137 = .ok (.invokestatic 529, 3) := by decide +kernel
theorem dX12_findEnd_140 : decode cX12_findEnd 140 = .ok (.imul, 1) := by decide +kernel
theorem dX12_findEnd_141 : decode cX12_findEnd 141 = .ok (.iadd, 1) := by decide +kernel
theorem dX12_findEnd_142 : decode cX12_findEnd 142 = .ok (.putfield 523, 3) := by decide +kernel
theorem dX12_findEnd_145 : decode cX12_findEnd 145 = .ok (.aload_n 0, 1) := by decide +kernel
theorem dX12_findEnd_146 : decode cX12_findEnd 146 = .ok (.dup, 1) := by decide +kernel
theorem dX12_findEnd_147 : decode cX12_findEnd 147 = .ok (.getfield 526, 3) := by decide +kernel
theorem dX12_findEnd_150 : decode cX12_findEnd 150 = .ok (.bipush 10, 2) := by decide +kernel
theorem dX12_findEnd_152 : decode cX12_findEnd 152 = .ok (.aload_n 0, 1) := by decide +kernel
theorem dX12_findEnd_153 : decode cX12_findEnd 153 = .ok (.getfield 309, 3) := by decide +kernel
theorem dX12_findEnd_156 : decode cX12_findEnd 156 = .ok (.iload_n 3, 1) := by decide +kernel
theorem dX12_findEnd_157 : decode cX12_findEnd 157 = .ok (.iaload, 1) := by decide +kernel
theorem dX12_findEnd_158 : decode cX12_findEnd 158 = .ok (.imul, 1) := by decide +kernel
theorem dX12_findEnd_159 : decode cX12_findEnd 159 = .ok (.aload_n 0, 1) := by decide +kernel
theorem dX12_findEnd_160 : decode cX12_findEnd 160 = .ok (.getfield 385, 3) := by decide +kernel
theorem dX12_findEnd_163 : decode cX12_findEnd 163 = .ok (.iload_n 2, 1) := by decide +kernel
theorem dX12_findEnd_164 : decode cX12_findEnd 164 = .ok (.imul, 1) := by decide +kernel
theorem dX12_findEnd_165 : decode cX12_findEnd 165 = .ok (.iadd, 1) := by decide +kernel
theorem dX12_findEnd_166 : decode cX12_findEnd 166 = .ok (.iadd, 1) := by decide +kernel
theorem dX12_findEnd_167 : decode cX12_findEnd 167 = .ok (.putfield 526, 3) := by decide +kernel
theorem dX12_findEnd_170 : decode cX12_findEnd 170 = .ok (.iinc 2 1, 3) := by decide +kernel
theorem dX12_findEnd_173 : decode cX12_findEnd 173 = .ok (.iinc 3 1, 3) := by decide +kernel
theorem dX12_findEnd_176 : decode cX12_findEnd 176 = .ok (.goto (-157), 3) := by decide +kernel
theorem dX12_findEnd_179 : decode cX12_findEnd 179 = .ok (.return_, 1) := by decide +kernel
theorem dX12_isStep_0 : decode cX12_isStep 0 = .ok (.iload_n 0, 1) := by decide +kernel
theorem dX12_isStep_1 : decode cX12_isStep 1 = .ok (.i2l, 1) := by decide +kernel
theorem dX12_isStep_2 : decode cX12_isStep 2 = .ok (.lconst 0, 1) := by decide +kernel
theorem dX12_isStep_3 : decode cX12_isStep 3 = .ok (.ldc2_w 500, 3) := by decide +kernel
theorem dX12_isStep_6 : decode cX12_isStep 6 = .ok (.invokestatic 52, 3) := by decide +kernel
theorem dX12_isStep_9 : decode cX12_isStep 9 = .ok (.ireturn, 1) := by decide +kernel
theorem dX12_where_0 : decode cX12_where 0 = .ok (.iload_n 1, 1) := by decide +kernel
theorem dX12_where_1 : decode cX12_where 1 = .ok (.invokestatic 532, 3) := by decide +kernel
theorem dX12_where_4 : decode cX12_where 4 = .ok (.ifCond .eq 15, 3) := by decide +kernel
theorem dX12_where_7 : decode cX12_where 7 = .ok (.iload_n 2, 1) := by decide +kernel
theorem dX12_where_8 : decode cX12_where 8 = .ok (.i2l, 1) := by decide +kernel
theorem dX12_where_9 : decode cX12_where 9 = .ok (.lconst 0, 1) := by decide +kernel
theorem dX12_where_10 : decode cX12_where 10 = .ok (.ldc2_w 535, 3) := by decide +kernel
theorem dX12_where_13 : decode cX12_where 13 = .ok (.invokestatic 52, 3) := by decide +kernel
theorem dX12_where_16 : decode cX12_where 16 = .ok (.ifCond .ne 7, 3) := by decide +kernel
theorem dX12_where_19 : decode cX12_where 19 = .ok (.ldc_w 537, 3) := by decide +kernel
theorem dX12_where_22 : decode cX12_where 22 = .ok (.ireturn, 1) := by decide +kernel
theorem dX12_where_23 : decode cX12_where 23 = .ok (.aload_n 0, 1) := by decide +kernel
theorem dX12_where_24 : decode cX12_where 24 = .ok (.iload_n 1, 1) := by decide +kernel
theorem dX12_where_25 : decode cX12_where 25 = .ok (.invokevirtual 538, 3) := by decide +kernel
theorem dX12_where_28 : decode cX12_where 28 = .ok (.iload_n 2, 1) := by decide +kernel
theorem dX12_where_29 : decode cX12_where 29 = .ok (.ifCond .ne 10, 3) := by decide +kernel
theorem dX12_where_32 : decode cX12_where 32 = .ok (.aload_n 0, 1) := by decide +kernel
theorem dX12_where_33 : decode cX12_where 33 = .ok (.getfield 520, 3) := by decide +kernel
theorem dX12_where_36 : decode cX12_where 36 = .ok (.goto 19, 3) := by decide +kernel
theorem dX12_where_39 : decode cX12_where 39 = .ok (.iload_n 2, 1) := by decide +kernel
theorem dX12_where_40 : decode cX12_where 40 = .ok (.iconst 1, 1) := by decide +kernel
theorem dX12_where_41 : decode cX12_where 41 = .ok (.if_icmp .ne 10, 3) := by decide +kernel
theorem dX12_where_44 : decode cX12_where 44 = .ok (.aload_n 0, 1) := by decide +kernel
theorem dX12_where_45 : decode cX12_where 45 = .ok (.getfield 523, 3) := by decide +kernel
theorem dX12_where_48 : decode cX12_where 48 = .ok (.goto 7, 3) := by decide +kernel
theorem dX12_where_51 : decode cX12_where 51 = .ok (.aload_n 0, 1) := by decide +kernel
theorem dX12_where_52 : decode cX12_where 52 = .ok (.getfield 526, 3) := by decide +kernel
theorem dX12_where_55 : decode cX12_where 55 = .ok (.ireturn, 1) := by decide +kernel
theorem dX12_up_0 : decode cX12_up 0 = .ok (.aload_n 0, 1) := by decide +kernel
theorem dX12_up_1 : decode cX12_up 1 = .ok (.iload_n 1, 1) := by decide +kernel
theorem dX12_up_2 : decode cX12_up 2 = .ok (.invokevirtual 408, 3) := by decide +kernel
theorem dX12_up_5 : decode cX12_up 5 = .ok (.ifCond .eq 10, 3) := by decide +kernel
theorem dX12_up_8 : decode cX12_up 8 = .ok (.iload_n 2, 1) := by decide +kernel
theorem dX12_up_9 : decode cX12_up 9 = .ok (.invokestatic 532, 3) := by decide +kernel
theorem dX12_up_12 : decode cX12_up 12 = .ok (.ifCond .ne 6, 3) := by decide +kernel
theorem dX12_up_15 : decode cX12_up 15 = .ok (.bipush (-2), 2) := by decide +kernel
theorem dX12_up_17 : decode cX12_up 17 = .ok (.ireturn, 1) := by decide +kernel
theorem dX12_up_18 : decode cX12_up 18 = .ok (.aload_n 0, 1) := by decide +kernel
theorem dX12_up_19 : decode cX12_up 19 = .ok (.iload_n 2, 1) := by decide +kernel
theorem dX12_up_20 : decode cX12_up 20 = .ok (.invokevirtual 538, 3) := by decide +kernel
theorem dX12_up_23 : decode cX12_up 23 = .ok (.aload_n 0, 1) := by decide +kernel
theorem dX12_up_24 : decode cX12_up 24 = .ok (.getfield 523, 3) := by decide +kernel
theorem dX12_up_27 : decode cX12_up 27 = .ok (.bipush 10, 2) := by decide +kernel
theorem dX12_up_29 : decode cX12_up 29 = .ok (.aload_n 0, 1) := by decide +kernel
theorem dX12_up_30 : decode cX12_up 30 = .ok (.getfield 225, 3) := by decide +kernel
theorem dX12_up_33 : decode cX12_up 33 = .ok (.iload_n 1, 1) := by decide +kernel
theorem dX12_up_34 : decode cX12_up 34 = .ok (.iaload, 1) := by decide +kernel
theorem dX12_up_35 : decode cX12_up 35 = .ok (.imul, 1) := by decide +kernel
theorem dX12_up_36 : decode cX12_up 36 = .ok (.isub, 1) := by decide +kernel
theorem dX12_up_37 : decode cX12_up 37 = .ok (.aload_n 0, 1) := by decide +kernel
theorem dX12_up_38 : decode cX12_up 38 = .ok (.getfield 526, 3) := by decide +kernel
theorem dX12_up_41 : decode cX12_up 41 = .ok (.isub, 1) := by decide +kernel
theorem dX12_up_42 : decode cX12_up 42 = .ok (.istore_n 3, 1) := by decide +kernel
theorem dX12_up_43 : decode cX12_up 43 = .ok (.aload_n 0, 1) := by decide +kernel
theorem dX12_up_44 : decode cX12_up 44 = .ok (.getfield 523, 3) := by decide +kernel
theorem dX12_up_47 : decode cX12_up 47 = .ok (.bipush 10, 2) := by decide +kernel
theorem dX12_up_49 : decode cX12_up 49 = .ok (.aload_n 0, 1) := by decide +kernel
theorem dX12_up_50 : decode cX12_up 50 = .ok (.getfield 225, 3) := by decide +kernel
theorem dX12_up_53 : decode cX12_up 53 = .ok (.iload_n 1, 1) := by decide +kernel
theorem dX12_up_54 : decode cX12_up 54 = .ok (.iaload, 1) := by decide +kernel
theorem dX12_up_55 : decode cX12_up 55 = .ok (.imul, 1) := by decide +kernel
theorem dX12_up_56 : decode cX12_up 56 = .ok (.isub, 1) := by decide +kernel
theorem dX12_up_57 : decode cX12_up 57 = .ok (.aload_n 0, 1) := by decide +kernel
theorem dX12_up_58 : decode cX12_up 58 = .ok (.getfield 526, 3) := by decide +kernel
theorem dX12_up_61 : decode cX12_up 61 = .ok (.iadd, 1) := by decide +kernel
theorem dX12_up_62 : decode cX12_up 62 = .ok (.istore 4, 2) := by decide +kernel
theorem dX12_up_64 : decode cX12_up 64 = .ok (.iload 4, 2) := by decide +kernel
theorem dX12_up_66 : decode cX12_up 66 = .ok (.ifCond .gt 7, 3) := by decide +kernel
theorem dX12_up_69 : decode cX12_up 69 = .ok (.iconst 0, 1) := by decide +kernel
theorem dX12_up_70 : decode cX12_up 70 = .ok (.goto 43, 3) := by decide +kernel
theorem dX12_up_73 : decode cX12_up 73 = .ok (.iload_n 3, 1) := by decide +kernel
theorem dX12_up_74 : decode cX12_up 74 = .ok (.bipush 10, 2) := by decide +kernel
theorem dX12_up_76 : decode cX12_up 76 = .ok (.aload_n 0, 1) := by decide +kernel
theorem dX12_up_77 : decode cX12_up 77 = .ok (.getfield 219, 3) := by decide +kernel
theorem dX12_up_80 : decode cX12_up 80 = .ok (.iconst 1, 1) := by decide +kernel
theorem dX12_up_81 : decode cX12_up 81 = .ok (.iaload, 1) := by decide +kernel
theorem dX12_up_82 : decode cX12_up 82 = .ok (.imul, 1) := by decide +kernel
theorem dX12_up_83 : decode cX12_up 83 = .ok (.if_icmp .lt 7, 3) := by decide +kernel
theorem dX12_up_86 : decode cX12_up 86 = .ok (.iconst 2, 1) := by decide +kernel
theorem dX12_up_87 : decode cX12_up 87 = .ok (.goto 26, 3) := by decide +kernel
theorem dX12_up_90 : decode cX12_up 90 = .ok (.iload_n 3, 1) := by decide +kernel
theorem dX12_up_91 : decode cX12_up 91 = .ok (.ifCond .le 21, 3) := by decide +kernel
theorem dX12_up_94 : decode cX12_up 94 = .ok (.iload 4, 2) := by decide +kernel
theorem dX12_up_96 : decode cX12_up 96 = .ok (.bipush 10, 2) := by decide +kernel
theorem dX12_up_98 : decode cX12_up 98 = .ok (.aload_n 0, 1) := by decide +kernel
theorem dX12_up_99 : decode cX12_up 99 = .ok (.getfield 219, 3) := by decide +kernel
theorem dX12_up_102 : decode cX12_up 102 = .ok (.iconst 1, 1) := by decide +kernel
theorem dX12_up_103 : decode cX12_up 103 = .ok (.iaload, 1) := by decide +kernel
theorem dX12_up_104 : decode cX12_up 104 = .ok (.imul, 1) := by decide +kernel
theorem dX12_up_105 : decode cX12_up 105 = .ok (.if_icmp .ge 7, 3) := by decide +kernel
theorem dX12_up_108 : decode cX12_up 108 = .ok (.iconst 1, 1) := by decide +kernel
theorem dX12_up_109 : decode cX12_up 109 = .ok (.goto 4, 3) := by decide +kernel
theorem dX12_up_112 : decode cX12_up 112 = .ok (.iconst 3, 1) := by decide +kernel
theorem dX12_up_113 : decode cX12_up 113 = .ok (.ireturn, 1) := by decide +kernel
theorem dX12_join_0 : decode cX12_join 0 = .ok (.iload_n 1, 1) := by decide +kernel
theorem dX12_join_1 : decode cX12_join 1 = .ok (.i2l, 1) := by decide +kernel
theorem dX12_join_2 : decode cX12_join 2 = .ok (.lconst 1, 1) := by decide +kernel
theorem dX12_join_3 : decode cX12_join 3 = .ok (.ldc2_w 394, 3) := by decide +kernel
theorem dX12_join_6 : decode cX12_join 6 = .ok (.invokestatic 52, 3) := by decide +kernel
theorem dX12_join_9 : decode cX12_join 9 = .ok (.ifCond .eq 13, 3) := by decide +kernel
theorem dX12_join_12 : decode cX12_join 12 = .ok (.iload_n 2, 1) := by decide +kernel
theorem dX12_join_13 : decode cX12_join 13 = .ok (.i2l, 1) := by decide +kernel
theorem dX12_join_14 : decode cX12_join 14 = .ok (.lconst 0, 1) := by decide +kernel
theorem dX12_join_15 : decode cX12_join 15 = .ok (.lconst 1, 1) := by decide +kernel
theorem dX12_join_16 : decode cX12_join 16 = .ok (.invokestatic 52, 3) := by decide +kernel
theorem dX12_join_19 : decode cX12_join 19 = .ok (.ifCond .ne 6, 3) := by decide +kernel
theorem dX12_join_22 : decode cX12_join 22 = .ok (.bipush (-2), 2) := by decide +kernel
theorem dX12_join_24 : decode cX12_join 24 = .ok (.ireturn, 1) := by decide +kernel
theorem dX12_join_25 : decode cX12_join 25 = .ok (.aload_n 0, 1) := by decide +kernel
theorem dX12_join_26 : decode cX12_join 26 = .ok (.getfield 541, 3) := by decide +kernel
theorem dX12_join_29 : decode cX12_join 29 = .ok (.bipush 8, 2) := by decide +kernel
theorem dX12_join_31 : decode cX12_join 31 = .ok (.if_icmp .ne 6, 3) := by decide +kernel
theorem dX12_join_34 : decode cX12_join 34 = .ok (.bipush (-3), 2) := by decide +kernel
theorem dX12_join_36 : decode cX12_join 36 = .ok (.ireturn, 1) := by decide +kernel
theorem dX12_join_37 : decode cX12_join 37 = .ok (.aload_n 0, 1) := by decide +kernel
theorem dX12_join_38 : decode cX12_join 38 = .ok (.getfield 324, 3) := by decide +kernel
theorem dX12_join_41 : decode cX12_join 41 = .ok (.aload_n 0, 1) := by decide +kernel
theorem dX12_join_42 : decode cX12_join 42 = .ok (.getfield 541, 3) := by decide +kernel
theorem dX12_join_45 : decode cX12_join 45 = .ok (.iload_n 1, 1) := by decide +kernel
theorem dX12_join_46 : decode cX12_join 46 = .ok (.iconst 3, 1) := by decide +kernel
theorem dX12_join_47 : decode cX12_join 47 = .ok (.iload_n 2, 1) := by decide +kernel
theorem dX12_join_48 : decode cX12_join 48 = .ok (.imul, 1) := by decide +kernel
theorem dX12_join_49 : decode cX12_join 49 = .ok (.iadd, 1) := by decide +kernel
theorem dX12_join_50 : decode cX12_join 50 = .ok (.iastore, 1) := by decide +kernel
theorem dX12_join_51 : decode cX12_join 51 = .ok (.aload_n 0, 1) := by decide +kernel
theorem dX12_join_52 : decode cX12_join 52 = .ok (.dup, 1) := by decide +kernel
theorem dX12_join_53 : decode cX12_join 53 = .ok (.getfield 541, 3) := by decide +kernel
theorem dX12_join_56 : decode cX12_join 56 = .ok (.iconst 1, 1) := by decide +kernel
theorem dX12_join_57 : decode cX12_join 57 = .ok (.iadd, 1) := by decide +kernel
theorem dX12_join_58 : decode cX12_join 58 = .ok (.putfield 541, 3) := by decide +kernel
theorem dX12_join_61 : decode cX12_join 61 = .ok (.aload_n 0, 1) := by decide +kernel
theorem dX12_join_62 : decode cX12_join 62 = .ok (.getfield 541, 3) := by decide +kernel
theorem dX12_join_65 : decode cX12_join 65 = .ok (.iconst 1, 1) := by decide +kernel
theorem dX12_join_66 : decode cX12_join 66 = .ok (.isub, 1) := by decide +kernel
theorem dX12_join_67 : decode cX12_join 67 = .ok (.ireturn, 1) := by decide +kernel
theorem dX12_round_0 : decode cX12_round 0 = .ok (.iload_n 1, 1) := by decide +kernel
theorem dX12_round_1 : decode cX12_round 1 = .ok (.i2l, 1) := by decide +kernel
theorem dX12_round_2 : decode cX12_round 2 = .ok (.lconst 0, 1) := by decide +kernel
theorem dX12_round_3 : decode cX12_round 3 = .ok (.ldc2_w 544, 3) := by decide +kernel
theorem dX12_round_6 : decode cX12_round 6 = .ok (.invokestatic 52, 3) := by decide +kernel
theorem dX12_round_9 : decode cX12_round 9 = .ok (.ifCond .eq 18, 3) := by decide +kernel
theorem dX12_round_12 : decode cX12_round 12 = .ok (.iload_n 2, 1) := by decide +kernel
theorem dX12_round_13 : decode cX12_round 13 = .ok (.i2l, 1) := by decide +kernel
theorem dX12_round_14 : decode cX12_round 14 = .ok (.iload_n 1, 1) := by decide +kernel
theorem dX12_round_15 : decode cX12_round 15 = .ok (.i2l, 1) := by decide +kernel
theorem dX12_round_16 : decode cX12_round 16 = .ok (.lconst 1, 1) := by decide +kernel
theorem dX12_round_17 : decode cX12_round 17 = .ok (.ladd, 1) := by decide +kernel
theorem dX12_round_18 : decode cX12_round 18 = .ok (.ldc2_w 544, 3) := by decide +kernel
theorem dX12_round_21 : decode cX12_round 21 = .ok (.invokestatic 52, 3) := by decide +kernel
theorem dX12_round_24 : decode cX12_round 24 = .ok (.ifCond .ne 6, 3) := by decide +kernel
theorem dX12_round_27 : decode cX12_round 27 = .ok (.bipush (-2), 2) := by decide +kernel
theorem dX12_round_29 : decode cX12_round 29 = .ok (.ireturn, 1) := by decide +kernel
theorem dX12_round_30 : decode cX12_round 30 = .ok (.iconst 0, 1) := by decide +kernel
theorem dX12_round_31 : decode cX12_round 31 = .ok (.istore_n 3, 1) := by decide +kernel
theorem dX12_round_32 : decode cX12_round 32 = .ok (.iload_n 3, 1) := by decide +kernel
theorem dX12_round_33 : decode cX12_round 33 = .ok (.aload_n 0, 1) := by decide +kernel
theorem dX12_round_34 : decode cX12_round 34 = .ok (.getfield 546, 3) := by decide +kernel
theorem dX12_round_37 : decode cX12_round 37 = .ok (.if_icmp .ge 32, 3) := by decide +kernel
theorem dX12_round_40 : decode cX12_round 40 = .ok (.iload_n 1, 1) := by decide +kernel
theorem dX12_round_41 : decode cX12_round 41 = .ok (.aload_n 0, 1) := by decide +kernel
theorem dX12_round_42 : decode cX12_round 42 = .ok (.getfield 330, 3) := by decide +kernel
theorem dX12_round_45 : decode cX12_round 45 = .ok (.iload_n 3, 1) := by decide +kernel
theorem dX12_round_46 : decode cX12_round 46 = .ok (.iaload, 1) := by decide +kernel
theorem dX12_round_47 : decode cX12_round 47 = .ok (.if_icmp .ge 16, 3) := by decide +kernel
theorem dX12_round_50 : decode cX12_round 50 = .ok (.aload_n 0, 1) := by decide +kernel
theorem dX12_round_51 : decode cX12_round 51 = .ok (.getfield 327, 3) := by decide +kernel
theorem dX12_round_54 : decode cX12_round 54 = .ok (.iload_n 3, 1) := by decide +kernel
theorem dX12_round_55 : decode cX12_round 55 = .ok (.iaload, 1) := by decide +kernel
theorem dX12_round_56 : decode cX12_round 56 = .ok (.iload_n 2, 1) := by decide +kernel
theorem dX12_round_57 : decode cX12_round 57 = .ok (.if_icmp .ge 6, 3) := by decide +kernel
theorem dX12_round_60 : decode cX12_round 60 = .ok (.bipush (-2), 2) := by decide +kernel
theorem dX12_round_62 : decode cX12_round 62 = .ok (.ireturn, 1) := by decide +kernel
theorem dX12_round_63 : decode cX12_round 63 = .ok (.iinc 3 1, 3) := by decide +kernel
theorem dX12_round_66 : decode cX12_round 66 = .ok (.goto (-34), 3) := by decide +kernel
theorem dX12_round_69 : decode cX12_round 69 = .ok (.aload_n 0, 1) := by decide +kernel
theorem dX12_round_70 : decode cX12_round 70 = .ok (.getfield 546, 3) := by decide +kernel
theorem dX12_round_73 : decode cX12_round 73 = .ok (.iconst 5, 1) := by decide +kernel
theorem dX12_round_74 : decode cX12_round 74 = .ok (.if_icmp .ne 6, 3) := by decide +kernel
theorem dX12_round_77 : decode cX12_round 77 = .ok (.bipush (-3), 2) := by decide +kernel
theorem dX12_round_79 : decode cX12_round 79 = .ok (.ireturn, 1) := by decide +kernel
theorem dX12_round_80 : decode cX12_round 80 = .ok (.aload_n 0, 1) := by decide +kernel
theorem dX12_round_81 : decode cX12_round 81 = .ok (.getfield 327, 3) := by decide +kernel
theorem dX12_round_84 : decode cX12_round 84 = .ok (.aload_n 0, 1) := by decide +kernel
theorem dX12_round_85 : decode cX12_round 85 = .ok (.getfield 546, 3) := by decide +kernel
theorem dX12_round_88 : decode cX12_round 88 = .ok (.iload_n 1, 1) := by decide +kernel
theorem dX12_round_89 : decode cX12_round 89 = .ok (.iastore, 1) := by decide +kernel
theorem dX12_round_90 : decode cX12_round 90 = .ok (.aload_n 0, 1) := by decide +kernel
theorem dX12_round_91 : decode cX12_round 91 = .ok (.getfield 330, 3) := by decide +kernel
theorem dX12_round_94 : decode cX12_round 94 = .ok (.aload_n 0, 1) := by decide +kernel
theorem dX12_round_95 : decode cX12_round 95 = .ok (.getfield 546, 3) := by decide +kernel
theorem dX12_round_98 : decode cX12_round 98 = .ok (.iload_n 2, 1) := by decide +kernel
theorem dX12_round_99 : decode cX12_round 99 = .ok (.iastore, 1) := by decide +kernel
theorem dX12_round_100 : decode cX12_round 100 = .ok (.aload_n 0, 1) := by decide +kernel
theorem dX12_round_101 : decode cX12_round 101 = .ok (.dup, 1) := by decide +kernel
theorem dX12_round_102 : decode cX12_round 102 = .ok (.getfield 546, 3) := by decide +kernel
theorem dX12_round_105 : decode cX12_round 105 = .ok (.iconst 1, 1) := by decide +kernel
theorem dX12_round_106 : decode cX12_round 106 = .ok (.iadd, 1) := by decide +kernel
theorem dX12_round_107 : decode cX12_round 107 = .ok (.putfield 546, 3) := by decide +kernel
theorem dX12_round_110 : decode cX12_round 110 = .ok (.aload_n 0, 1) := by decide +kernel
theorem dX12_round_111 : decode cX12_round 111 = .ok (.getfield 546, 3) := by decide +kernel
theorem dX12_round_114 : decode cX12_round 114 = .ok (.iconst 1, 1) := by decide +kernel
theorem dX12_round_115 : decode cX12_round 115 = .ok (.isub, 1) := by decide +kernel
theorem dX12_round_116 : decode cX12_round 116 = .ok (.ireturn, 1) := by decide +kernel
theorem dX12_morning_0 : decode cX12_morning 0 = .ok (.aload_n 0, 1) := by decide +kernel
theorem dX12_morning_1 : decode cX12_morning 1 = .ok (.getfield 541, 3) := by decide +kernel
theorem dX12_morning_4 : decode cX12_morning 4 = .ok (.istore_n 1, 1) := by decide +kernel
theorem dX12_morning_5 : decode cX12_morning 5 = .ok (.aload_n 0, 1) := by decide +kernel
theorem dX12_morning_6 : decode cX12_morning 6 = .ok (.iconst 0, 1) := by decide +kernel
theorem dX12_morning_7 : decode cX12_morning 7 = .ok (.putfield 541, 3) := by decide +kernel
theorem dX12_morning_10 : decode cX12_morning 10 = .ok (.aload_n 0, 1) := by decide +kernel
theorem dX12_morning_11 : decode cX12_morning 11 = .ok (.iconst 0, 1) := by decide +kernel
theorem dX12_morning_12 : decode cX12_morning 12 = .ok (.putfield 546, 3) := by decide +kernel
theorem dX12_morning_15 : decode cX12_morning 15 = .ok (.aload_n 0, 1) := by decide +kernel
theorem dX12_morning_16 : decode cX12_morning 16 = .ok (.iconst 0, 1) := by decide +kernel
theorem dX12_morning_17 : decode cX12_morning 17 = .ok (.putfield 391, 3) := by decide +kernel
theorem dX12_morning_20 : decode cX12_morning 20 = .ok (.iload_n 1, 1) := by decide +kernel
theorem dX12_morning_21 : decode cX12_morning 21 = .ok (.ireturn, 1) := by decide +kernel
theorem dX12_outBy_0 : decode cX12_outBy 0 = .ok (.iload_n 2, 1) := by decide +kernel
theorem dX12_outBy_1 : decode cX12_outBy 1 = .ok (.istore_n 3, 1) := by decide +kernel
theorem dX12_outBy_2 : decode cX12_outBy 2 = .ok (.iconst 1, 1) := by decide +kernel
theorem dX12_outBy_3 : decode cX12_outBy 3 = .ok (.istore 4, 2) := by decide +kernel
theorem dX12_outBy_5 : decode cX12_outBy 5 = .ok (.iload 4, 2) := by decide +kernel
theorem dX12_outBy_7 : decode cX12_outBy 7 = .ok (.ifCond .eq 70, 3) := by decide +kernel
theorem dX12_outBy_10 : decode cX12_outBy 10 = .ok (.iconst 0, 1) := by decide +kernel
theorem dX12_outBy_11 : decode cX12_outBy 11 = .ok (.istore 4, 2) := by decide +kernel
theorem dX12_outBy_13 : decode cX12_outBy 13 = .ok (.iconst 0, 1) := by decide +kernel
theorem dX12_outBy_14 : decode cX12_outBy 14 = .ok (.istore 5, 2) := by decide +kernel
theorem dX12_outBy_16 : decode cX12_outBy 16 = .ok (.iload 5, 2) := by decide +kernel
theorem dX12_outBy_18 : decode cX12_outBy 18 = .ok (.aload_n 0, 1) := by decide +kernel
theorem dX12_outBy_19 : decode cX12_outBy 19 = .ok (.getfield 546, 3) := by decide +kernel
theorem dX12_outBy_22 : decode cX12_outBy 22 = .ok (.if_icmp .ge 52, 3) := by decide +kernel
theorem dX12_outBy_25 : decode cX12_outBy 25 = .ok (.iload_n 3, 1) := by decide +kernel
theorem dX12_outBy_26 : decode cX12_outBy 26 = .ok (.aload_n 0, 1) := by decide +kernel
theorem dX12_outBy_27 : decode cX12_outBy 27 = .ok (.getfield 330, 3) := by decide +kernel
theorem dX12_outBy_30 : decode cX12_outBy 30 = .ok (.iload 5, 2) := by decide +kernel
theorem dX12_outBy_32 : decode cX12_outBy 32 = .ok (.iaload, 1) := by decide +kernel
theorem dX12_outBy_33 : decode cX12_outBy 33 = .ok (.if_icmp .ge 35, 3) := by decide +kernel
theorem dX12_outBy_36 : decode cX12_outBy 36 = .ok (.aload_n 0, 1) := by decide +kernel
theorem dX12_outBy_37 : decode cX12_outBy 37 = .ok (.getfield 327, 3) := by decide +kernel
theorem dX12_outBy_40 : decode cX12_outBy 40 = .ok (.iload 5, 2) := by decide +kernel
theorem dX12_outBy_42 : decode cX12_outBy 42 = .ok (.iaload, 1) := by decide +kernel
theorem dX12_outBy_43 : decode cX12_outBy 43 = .ok (.iload_n 3, 1) := by decide +kernel
theorem dX12_outBy_44 : decode cX12_outBy 44 = .ok (.aload_n 0, 1) := by decide +kernel
theorem dX12_outBy_45 : decode cX12_outBy 45 = .ok (.getfield 324, 3) := by decide +kernel
theorem dX12_outBy_48 : decode cX12_outBy 48 = .ok (.iload_n 1, 1) := by decide +kernel
theorem dX12_outBy_49 : decode cX12_outBy 49 = .ok (.iaload, 1) := by decide +kernel
theorem dX12_outBy_50 : decode cX12_outBy 50 = .ok (.iadd, 1) := by decide +kernel
theorem dX12_outBy_51 : decode cX12_outBy 51 = .ok (.if_icmp .lt 6, 3) := by decide +kernel
theorem dX12_outBy_54 : decode cX12_outBy 54 = .ok (.goto 14, 3) := by decide +kernel
theorem dX12_outBy_57 : decode cX12_outBy 57 = .ok (.aload_n 0, 1) := by decide +kernel
theorem dX12_outBy_58 : decode cX12_outBy 58 = .ok (.getfield 330, 3) := by decide +kernel
theorem dX12_outBy_61 : decode cX12_outBy 61 = .ok (.iload 5, 2) := by decide +kernel
theorem dX12_outBy_63 : decode cX12_outBy 63 = .ok (.iaload, 1) := by decide +kernel
theorem dX12_outBy_64 : decode cX12_outBy 64 = .ok (.istore_n 3, 1) := by decide +kernel
theorem dX12_outBy_65 : decode cX12_outBy 65 = .ok (.iconst 1, 1) := by decide +kernel
theorem dX12_outBy_66 : decode cX12_outBy 66 = .ok (.istore 4, 2) := by decide +kernel
theorem dX12_outBy_68 : decode cX12_outBy 68 = .ok (.iinc 5 1, 3) := by decide +kernel
theorem dX12_outBy_71 : decode cX12_outBy 71 = .ok (.goto (-55), 3) := by decide +kernel
theorem dX12_outBy_74 : decode cX12_outBy 74 = .ok (.goto (-69), 3) := by decide +kernel
theorem dX12_outBy_77 : decode cX12_outBy 77 = .ok (.iload_n 3, 1) := by decide +kernel
theorem dX12_outBy_78 : decode cX12_outBy 78 = .ok (.aload_n 0, 1) := by decide +kernel
theorem dX12_outBy_79 : decode cX12_outBy 79 = .ok (.getfield 324, 3) := by decide +kernel
theorem dX12_outBy_82 : decode cX12_outBy 82 = .ok (.iload_n 1, 1) := by decide +kernel
theorem dX12_outBy_83 : decode cX12_outBy 83 = .ok (.iaload, 1) := by decide +kernel
theorem dX12_outBy_84 : decode cX12_outBy 84 = .ok (.iadd, 1) := by decide +kernel
theorem dX12_outBy_85 : decode cX12_outBy 85 = .ok (.ireturn, 1) := by decide +kernel
theorem dX12_order_0 : decode cX12_order 0 = .ok (.aload_n 0, 1) := by decide +kernel
theorem dX12_order_1 : decode cX12_order 1 = .ok (.getfield 345, 3) := by decide +kernel
theorem dX12_order_4 : decode cX12_order 4 = .ok (.istore_n 1, 1) := by decide +kernel
theorem dX12_order_5 : decode cX12_order 5 = .ok (.aload_n 0, 1) := by decide +kernel
theorem dX12_order_6 : decode cX12_order 6 = .ok (.iconst 0, 1) := by decide +kernel
theorem dX12_order_7 : decode cX12_order 7 = .ok (.putfield 345, 3) := by decide +kernel
theorem dX12_order_10 : decode cX12_order 10 = .ok (.iconst 0, 1) := by decide +kernel
theorem dX12_order_11 : decode cX12_order 11 = .ok (.istore_n 2, 1) := by decide +kernel
theorem dX12_order_12 : decode cX12_order 12 = .ok (.iconst 0, 1) := by decide +kernel
theorem dX12_order_13 : decode cX12_order 13 = .ok (.istore_n 3, 1) := by decide +kernel
theorem dX12_order_14 : decode cX12_order 14 = .ok (.iload_n 1, 1) := by decide +kernel
theorem dX12_order_15 : decode cX12_order 15 = .ok (.aload_n 0, 1) := by decide +kernel
theorem dX12_order_16 : decode cX12_order 16 = .ok (.getfield 541, 3) := by decide +kernel
theorem dX12_order_19 : decode cX12_order 19 = .ok (.if_icmp .le 5, 3) := by decide +kernel
theorem dX12_order_22 : decode cX12_order 22 = .ok (.iconst (-1), 1) := by decide +kernel
theorem dX12_order_23 : decode cX12_order 23 = .ok (.ireturn, 1) := by decide +kernel
theorem dX12_order_24 : decode cX12_order 24 = .ok (.iconst 0, 1) := by decide +kernel
theorem dX12_order_25 : decode cX12_order 25 = .ok (.istore 4, 2) := by decide +kernel
theorem dX12_order_27 : decode cX12_order 27 = .ok (.iload 4, 2) := by decide +kernel
theorem dX12_order_29 : decode cX12_order 29 = .ok (.iload_n 1, 1) := by decide +kernel
theorem dX12_order_30 : decode cX12_order 30 = .ok (.if_icmp .ge 69, 3) := by decide +kernel
theorem dX12_order_33 : decode cX12_order 33 = .ok (.aload_n 0, 1) := by decide +kernel
theorem dX12_order_34 : decode cX12_order 34 = .ok (.getfield 16, 3) := by decide +kernel
theorem dX12_order_37 : decode cX12_order 37 = .ok (.iload 4, 2) := by decide +kernel
theorem dX12_order_39 : decode cX12_order 39 = .ok (.baload, 1) := by decide +kernel
theorem dX12_order_40 : decode cX12_order 40 = .ok (.sipush 255, 3) := by decide +kernel
theorem dX12_order_43 : decode cX12_order 43 = .ok (.iand, 1) := by decide +kernel
theorem dX12_order_44 : decode cX12_order 44 = .ok (.bipush 48, 2) := by decide +kernel
theorem dX12_order_46 : decode cX12_order 46 = .ok (.isub, 1) := by decide +kernel
theorem dX12_order_47 : decode cX12_order 47 = .ok (.istore 5, 2) := by decide +kernel
theorem dX12_order_49 : decode cX12_order 49 = .ok (.iload 5, 2) := by decide +kernel
theorem dX12_order_51 : decode cX12_order 51 = .ok (.i2l, 1) := by decide +kernel
theorem dX12_order_52 : decode cX12_order 52 = .ok (.lconst 0, 1) := by decide +kernel
theorem dX12_order_53 : decode cX12_order 53 = .ok (.aload_n 0, 1) := by decide +kernel
theorem dX12_order_54 : decode cX12_order 54 = .ok (.getfield 541, 3) := by decide +kernel
theorem dX12_order_57 : decode cX12_order 57 = .ok (.i2l, 1) := by decide +kernel
theorem dX12_order_58 : decode cX12_order 58 = .ok (.lconst 1, 1) := by decide +kernel
theorem dX12_order_59 : decode cX12_order 59 = .ok (.lsub, 1) := by decide +kernel
theorem dX12_order_60 : decode cX12_order 60 = .ok (.invokestatic 52, 3) := by decide +kernel
theorem dX12_order_63 : decode cX12_order 63 = .ok (.ifCond .eq 13, 3) := by decide +kernel
theorem dX12_order_66 : decode cX12_order 66 = .ok (.iload_n 2, 1) := by decide +kernel
theorem dX12_order_67 : decode cX12_order 67 = .ok (.iload 5, 2) := by decide +kernel
theorem dX12_order_69 : decode cX12_order 69 = .ok (.ishr, 1) := by decide +kernel
theorem dX12_order_70 : decode cX12_order 70 = .ok (.iconst 1, 1) := by decide +kernel
theorem dX12_order_71 : decode cX12_order 71 = .ok (.iand, 1) := by decide +kernel
theorem dX12_order_72 : decode cX12_order 72 = .ok (.iconst 1, 1) := by decide +kernel
theorem dX12_order_73 : decode cX12_order 73 = .ok (.if_icmp .ne 5, 3) := by decide +kernel
theorem dX12_order_76 : decode cX12_order 76 = .ok (.iconst (-1), 1) := by decide +kernel
theorem dX12_order_77 : decode cX12_order 77 = .ok (.ireturn, 1) := by decide +kernel
theorem dX12_order_78 : decode cX12_order 78 = .ok (.iload_n 2, 1) := by decide +kernel
theorem dX12_order_79 : decode cX12_order 79 = .ok (.iconst 1, 1) := by decide +kernel
theorem dX12_order_80 : decode cX12_order 80 = .ok (.iload 5, 2) := by decide +kernel
theorem dX12_order_82 : decode cX12_order 82 = .ok (.ishl, 1) := by decide +kernel
theorem dX12_order_83 : decode cX12_order 83 = .ok (.ior, 1) := by decide +kernel
theorem dX12_order_84 : decode cX12_order 84 = .ok (.istore_n 2, 1) := by decide +kernel
theorem dX12_order_85 : decode cX12_order 85 = .ok (.aload_n 0, 1) := by decide +kernel
theorem dX12_order_86 : decode cX12_order 86 = .ok (.iload 5, 2) := by decide +kernel
theorem dX12_order_88 : decode cX12_order 88 = .ok (.iload_n 3, 1) := by decide +kernel
theorem dX12_order_89 : decode cX12_order 89 = .ok (.invokevirtual 549, 3) := by decide +kernel
theorem dX12_order_92 : decode cX12_order 92 = .ok (.istore_n 3, 1) := by decide +kernel
theorem dX12_order_93 : decode cX12_order 93 = .ok (.iinc 4 1, 3) := by decide +kernel
theorem dX12_order_96 : decode cX12_order 96 = .ok (.goto (-69), 3) := by decide +kernel
theorem dX12_order_99 : decode cX12_order 99 = .ok (.iload_n 3, 1) := by decide +kernel
theorem dX12_order_100 : decode cX12_order 100 = .ok (.ireturn, 1) := by decide +kernel
theorem dX12_bits_0 : decode cX12_bits 0 = .ok (.iconst 0, 1) := by decide +kernel
theorem dX12_bits_1 : decode cX12_bits 1 = .ok (.istore_n 1, 1) := by decide +kernel
theorem dX12_bits_2 : decode cX12_bits 2 = .ok (.iload_n 0, 1) := by decide +kernel
theorem dX12_bits_3 : decode cX12_bits 3 = .ok (.istore_n 2, 1) := by decide +kernel
theorem dX12_bits_4 : decode cX12_bits 4 = .ok (.iload_n 2, 1) := by decide +kernel
theorem dX12_bits_5 : decode cX12_bits 5 = .ok (.ifCond .eq 15, 3) := by decide +kernel
theorem dX12_bits_8 : decode cX12_bits 8 = .ok (.iinc 1 1, 3) := by decide +kernel
theorem dX12_bits_11 : decode cX12_bits 11 = .ok (.iload_n 2, 1) := by decide +kernel
theorem dX12_bits_12 : decode cX12_bits 12 = .ok (.iload_n 2, 1) := by decide +kernel
theorem dX12_bits_13 : decode cX12_bits 13 = .ok (.iconst 1, 1) := by decide +kernel
theorem dX12_bits_14 : decode cX12_bits 14 = .ok (.isub, 1) := by decide +kernel
theorem dX12_bits_15 : decode cX12_bits 15 = .ok (.iand, 1) := by decide +kernel
theorem dX12_bits_16 : decode cX12_bits 16 = .ok (.istore_n 2, 1) := by decide +kernel
theorem dX12_bits_17 : decode cX12_bits 17 = .ok (.goto (-13), 3) := by decide +kernel
theorem dX12_bits_20 : decode cX12_bits 20 = .ok (.iload_n 1, 1) := by decide +kernel
theorem dX12_bits_21 : decode cX12_bits 21 = .ok (.ireturn, 1) := by decide +kernel
theorem dX12_findOut_0 : decode cX12_findOut 0 = .ok (.aload_n 0, 1) := by decide +kernel
theorem dX12_findOut_1 : decode cX12_findOut 1 = .ok (.getfield 333, 3) := by decide +kernel
theorem dX12_findOut_4 : decode cX12_findOut 4 = .ok (.iconst 0, 1) := by decide +kernel
theorem dX12_findOut_5 : decode cX12_findOut 5 = .ok (.iload_n 1, 1) := by decide +kernel
theorem dX12_findOut_6 : decode cX12_findOut 6 = .ok (.iastore, 1) := by decide +kernel
theorem dX12_findOut_7 : decode cX12_findOut 7 = .ok (.iconst 1, 1) := by decide +kernel
theorem dX12_findOut_8 : decode cX12_findOut 8 = .ok (.istore_n 3, 1) := by decide +kernel
theorem dX12_findOut_9 : decode cX12_findOut 9 = .ok (.iload_n 3, 1) := by decide +kernel
theorem dX12_findOut_10 : decode cX12_findOut 10 = .ok (.iconst 1, 1) := by decide +kernel
theorem dX12_findOut_11 : decode cX12_findOut 11 = .ok (.aload_n 0, 1) := by decide +kernel
theorem dX12_findOut_12 : decode cX12_findOut 12 = .ok (.getfield 541, 3) := by decide +kernel
theorem dX12_findOut_15 : decode cX12_findOut 15 = .ok (.ishl, 1) := by decide +kernel
theorem dX12_findOut_16 : decode cX12_findOut 16 = .ok (.if_icmp .ge 108, 3) := by decide +kernel
theorem dX12_findOut_19 : decode cX12_findOut 19 = .ok (.aload_n 0, 1) := by decide +kernel
theorem dX12_findOut_20 : decode cX12_findOut 20 = .ok (.getfield 333, 3) := by decide +kernel
theorem dX12_findOut_23 : decode cX12_findOut 23 = .ok (.iload_n 3, 1) := by decide +kernel
theorem dX12_findOut_24 : decode cX12_findOut 24 = .ok (.ldc_w 491, 3) := by decide +kernel
theorem dX12_findOut_27 : decode cX12_findOut 27 = .ok (.iastore, 1) := by decide +kernel
theorem dX12_findOut_28 : decode cX12_findOut 28 = .ok (.iconst 0, 1) := by decide +kernel
theorem dX12_findOut_29 : decode cX12_findOut 29 = .ok (.istore 4, 2) := by decide +kernel
theorem dX12_findOut_31 : decode cX12_findOut 31 = .ok (.iload 4, 2) := by decide +kernel
theorem dX12_findOut_33 : decode cX12_findOut 33 = .ok (.aload_n 0, 1) := by decide +kernel
theorem dX12_findOut_34 : decode cX12_findOut 34 = .ok (.getfield 541, 3) := by decide +kernel
theorem dX12_findOut_37 : decode cX12_findOut 37 = .ok (.if_icmp .ge 81, 3) := by decide +kernel
theorem dX12_findOut_40 : decode cX12_findOut 40 = .ok (.iload_n 3, 1) := by decide +kernel
theorem dX12_findOut_41 : decode cX12_findOut 41 = .ok (.iload 4, 2) := by decide +kernel
theorem dX12_findOut_43 : decode cX12_findOut 43 = .ok (.ishr, 1) := by decide +kernel
theorem dX12_findOut_44 : decode cX12_findOut 44 = .ok (.iconst 1, 1) := by decide +kernel
theorem dX12_findOut_45 : decode cX12_findOut 45 = .ok (.iand, 1) := by decide +kernel
theorem dX12_findOut_46 : decode cX12_findOut 46 = .ok (.iconst 1, 1) := by decide +kernel
theorem dX12_findOut_47 : decode cX12_findOut 47 = .ok (.if_icmp .ne 65, 3) := by decide +kernel
theorem dX12_findOut_50 : decode cX12_findOut 50 = .ok (.iload_n 2, 1) := by decide +kernel
theorem dX12_findOut_51 : decode cX12_findOut 51 = .ok (.iload 4, 2) := by decide +kernel
theorem dX12_findOut_53 : decode cX12_findOut 53 = .ok (.ishr, 1) := by decide +kernel
theorem dX12_findOut_54 : decode cX12_findOut 54 = .ok (.iconst 1, 1) := by decide +kernel
theorem dX12_findOut_55 : decode cX12_findOut 55 = .ok (.iand, 1) := by decide +kernel
theorem dX12_findOut_56 : decode cX12_findOut 56 = .ok (.ifCond .ne 56, 3) := by decide +kernel
theorem dX12_findOut_59 : decode cX12_findOut 59 = .ok (.aload_n 0, 1) := by decide +kernel
theorem dX12_findOut_60 : decode cX12_findOut 60 = .ok (.getfield 333, 3) := by decide +kernel
theorem dX12_findOut_63 : decode cX12_findOut 63 = .ok (.iload_n 3, 1) := by decide +kernel
theorem dX12_findOut_64 : decode cX12_findOut 64 = .ok (.iconst 1, 1) := by decide +kernel
theorem dX12_findOut_65 : decode cX12_findOut 65 = .ok (.iload 4, 2) := by decide +kernel
theorem dX12_findOut_67 : decode cX12_findOut 67 = .ok (.ishl, 1) := by decide +kernel
theorem dX12_findOut_68 : decode cX12_findOut 68 = .ok (.iconst (-1), 1) := by decide +kernel
theorem dX12_findOut_69 : decode cX12_findOut 69 = .ok (.ixor, 1) := by decide +kernel
theorem dX12_findOut_70 : decode cX12_findOut 70 = .ok (.iand, 1) := by decide +kernel
theorem dX12_findOut_71 : decode cX12_findOut 71 = .ok (.iaload, 1) := by decide +kernel
theorem dX12_findOut_72 : decode cX12_findOut 72 = .ok (.ldc_w 491, 3) := by decide +kernel
theorem dX12_findOut_75 : decode cX12_findOut 75 = .ok (.if_icmp .ge 37, 3) := by decide +kernel
theorem dX12_findOut_78 : decode cX12_findOut 78 = .ok (.aload_n 0, 1) := by decide +kernel
theorem dX12_findOut_79 : decode cX12_findOut 79 = .ok (.getfield 333, 3) := by decide +kernel
theorem dX12_findOut_82 : decode cX12_findOut 82 = .ok (.iload_n 3, 1) := by decide +kernel
theorem dX12_findOut_83 : decode cX12_findOut 83 = .ok (.aload_n 0, 1) := by decide +kernel
theorem dX12_findOut_84 : decode cX12_findOut 84 = .ok (.getfield 333, 3) := by decide +kernel
theorem dX12_findOut_87 : decode cX12_findOut 87 = .ok (.iload_n 3, 1) := by decide +kernel
theorem dX12_findOut_88 : decode cX12_findOut 88 = .ok (.iaload, 1) := by decide +kernel
theorem dX12_findOut_89 : decode cX12_findOut 89 = .ok (.aload_n 0, 1) := by decide +kernel
theorem dX12_findOut_90 : decode cX12_findOut 90 = .ok (.iload 4, 2) := by decide +kernel
theorem dX12_findOut_92 : decode cX12_findOut 92 = .ok (.aload_n 0, 1) := by decide +kernel
theorem dX12_findOut_93 : decode cX12_findOut 93 = .ok (.getfield 333, 3) := by decide +kernel
theorem dX12_findOut_96 : decode cX12_findOut 96 = .ok (.iload_n 3, 1) := by decide +kernel
theorem dX12_findOut_97 : decode cX12_findOut 97 = .ok (.iconst 1, 1) := by decide +kernel
theorem dX12_findOut_98 : decode cX12_findOut 98 = .ok (.iload 4, 2) := by decide +kernel
theorem dX12_findOut_100 : decode cX12_findOut 100 = .ok (.ishl, 1) := by decide +kernel
theorem dX12_findOut_101 : decode cX12_findOut 101 = .ok (.iconst (-1), 1) := by decide +kernel
theorem dX12_findOut_102 : decode cX12_findOut 102 = .ok (.ixor, 1) := by decide +kernel
theorem dX12_findOut_103 : decode cX12_findOut 103 = .ok (.iand, 1) := by decide +kernel
theorem dX12_findOut_104 : decode cX12_findOut 104 = .ok (.iaload, 1) := by decide +kernel
theorem dX12_findOut_105 : decode cX12_findOut 105 = .ok (.invokevirtual 549, 3) := by decide +kernel
theorem dX12_findOut_108 : decode cX12_findOut 108 = .ok (.invokestatic 433, 3) := by decide +kernel
theorem dX12_findOut_111 : decode cX12_findOut 111 = .ok (.iastore, 1) := by decide +kernel
theorem dX12_findOut_112 : decode cX12_findOut 112 = .ok (.iinc 4 1, 3) := by decide +kernel
theorem dX12_findOut_115 : decode cX12_findOut 115 = .ok (.goto (-84), 3) := by decide +kernel
theorem dX12_findOut_118 : decode cX12_findOut 118 = .ok (.iinc 3 1, 3) := by decide +kernel
theorem dX12_findOut_121 : decode cX12_findOut 121 = .ok (.goto (-112), 3) := by decide +kernel
theorem dX12_findOut_124 : decode cX12_findOut 124 = .ok (.return_, 1) := by decide +kernel
theorem dX12_earliest_0 : decode cX12_earliest 0 = .ok (.ldc_w 491, 3) := by decide +kernel
theorem dX12_earliest_3 : decode cX12_earliest 3 = .ok (.istore_n 2, 1) := by decide +kernel
theorem dX12_earliest_4 : decode cX12_earliest 4 = .ok (.iconst 0, 1) := by decide +kernel
theorem dX12_earliest_5 : decode cX12_earliest 5 = .ok (.istore_n 3, 1) := by decide +kernel
theorem dX12_earliest_6 : decode cX12_earliest 6 = .ok (.iload_n 3, 1) := by decide +kernel
theorem dX12_earliest_7 : decode cX12_earliest 7 = .ok (.iconst 1, 1) := by decide +kernel
theorem dX12_earliest_8 : decode cX12_earliest 8 = .ok (.aload_n 0, 1) := by decide +kernel
theorem dX12_earliest_9 : decode cX12_earliest 9 = .ok (.getfield 541, 3) := by decide +kernel
theorem dX12_earliest_12 : decode cX12_earliest 12 = .ok (.ishl, 1) := by decide +kernel
theorem dX12_earliest_13 : decode cX12_earliest 13 = .ok (.if_icmp .ge 28, 3) := by decide +kernel
theorem dX12_earliest_16 : decode cX12_earliest 16 = .ok (.iload_n 3, 1) := by decide +kernel
theorem dX12_earliest_17 : decode cX12_earliest 17 = .ok (.invokestatic 552, 3) := by decide +kernel
theorem dX12_earliest_20 : decode cX12_earliest 20 = .ok (.iload_n 1, 1) := by decide +kernel
theorem dX12_earliest_21 : decode cX12_earliest 21 = .ok (.if_icmp .ne 14, 3) := by decide +kernel
theorem dX12_earliest_24 : decode cX12_earliest 24 = .ok (.iload_n 2, 1) := by decide +kernel
theorem dX12_earliest_25 : decode cX12_earliest 25 = .ok (.aload_n 0, 1) := by decide +kernel
theorem dX12_earliest_26 : decode cX12_earliest 26 = .ok (.getfield 333, 3) := by decide +kernel
theorem dX12_earliest_29 : decode cX12_earliest 29 = .ok (.iload_n 3, 1) := by decide +kernel
theorem dX12_earliest_30 : decode cX12_earliest 30 = .ok (.iaload, 1) := by decide +kernel
theorem dX12_earliest_31 : decode cX12_earliest 31 = .ok (.invokestatic 433, 3) := by decide +kernel
theorem dX12_earliest_34 : decode cX12_earliest 34 = .ok (.istore_n 2, 1) := by decide +kernel
theorem dX12_earliest_35 : decode cX12_earliest 35 = .ok (.iinc 3 1, 3) := by decide +kernel
theorem dX12_earliest_38 : decode cX12_earliest 38 = .ok (.goto (-32), 3) := by decide +kernel
theorem dX12_earliest_41 : decode cX12_earliest 41 = .ok (.iload_n 2, 1) := by decide +kernel
theorem dX12_earliest_42 : decode cX12_earliest 42 = .ok (.ireturn, 1) := by decide +kernel
theorem dX12_best_0 : decode cX12_best 0 = .ok (.iload_n 1, 1) := by decide +kernel
theorem dX12_best_1 : decode cX12_best 1 = .ok (.i2l, 1) := by decide +kernel
theorem dX12_best_2 : decode cX12_best 2 = .ok (.lconst 0, 1) := by decide +kernel
theorem dX12_best_3 : decode cX12_best 3 = .ok (.ldc2_w 500, 3) := by decide +kernel
theorem dX12_best_6 : decode cX12_best 6 = .ok (.invokestatic 52, 3) := by decide +kernel
theorem dX12_best_9 : decode cX12_best 9 = .ok (.ifCond .ne 6, 3) := by decide +kernel
theorem dX12_best_12 : decode cX12_best 12 = .ok (.bipush (-2), 2) := by decide +kernel
theorem dX12_best_14 : decode cX12_best 14 = .ok (.ireturn, 1) := by decide +kernel
theorem dX12_best_15 : decode cX12_best 15 = .ok (.aload_n 0, 1) := by decide +kernel
theorem dX12_best_16 : decode cX12_best 16 = .ok (.iconst 0, 1) := by decide +kernel
theorem dX12_best_17 : decode cX12_best 17 = .ok (.iconst 0, 1) := by decide +kernel
theorem dX12_best_18 : decode cX12_best 18 = .ok (.invokevirtual 555, 3) := by decide +kernel
theorem dX12_best_21 : decode cX12_best 21 = .ok (.aload_n 0, 1) := by decide +kernel
theorem dX12_best_22 : decode cX12_best 22 = .ok (.getfield 541, 3) := by decide +kernel
theorem dX12_best_25 : decode cX12_best 25 = .ok (.istore_n 2, 1) := by decide +kernel
theorem dX12_best_26 : decode cX12_best 26 = .ok (.aload_n 0, 1) := by decide +kernel
theorem dX12_best_27 : decode cX12_best 27 = .ok (.iload_n 2, 1) := by decide +kernel
theorem dX12_best_28 : decode cX12_best 28 = .ok (.invokevirtual 558, 3) := by decide +kernel
theorem dX12_best_31 : decode cX12_best 31 = .ok (.iload_n 1, 1) := by decide +kernel
theorem dX12_best_32 : decode cX12_best 32 = .ok (.if_icmp .le 9, 3) := by decide +kernel
theorem dX12_best_35 : decode cX12_best 35 = .ok (.iinc 2 (-1), 3) := by decide +kernel
theorem dX12_best_38 : decode cX12_best 38 = .ok (.goto (-12), 3) := by decide +kernel
theorem dX12_best_41 : decode cX12_best 41 = .ok (.aload_n 0, 1) := by decide +kernel
theorem dX12_best_42 : decode cX12_best 42 = .ok (.iload_n 2, 1) := by decide +kernel
theorem dX12_best_43 : decode cX12_best 43 = .ok (.invokevirtual 558, 3) := by decide +kernel
theorem dX12_best_46 : decode cX12_best 46 = .ok (.istore_n 3, 1) := by decide +kernel
theorem dX12_best_47 : decode cX12_best 47 = .ok (.iconst 0, 1) := by decide +kernel
theorem dX12_best_48 : decode cX12_best 48 = .ok (.istore 4, 2) := by decide +kernel
theorem dX12_best_50 : decode cX12_best 50 = .ok (.iconst 0, 1) := by decide +kernel
theorem dX12_best_51 : decode cX12_best 51 = .ok (.istore 5, 2) := by decide +kernel
theorem dX12_best_53 : decode cX12_best 53 = .ok (.iconst 0, 1) := by decide +kernel
theorem dX12_best_54 : decode cX12_best 54 = .ok (.istore 6, 2) := by decide +kernel
theorem dX12_best_56 : decode cX12_best 56 = .ok (.iload 6, 2) := by decide +kernel
theorem dX12_best_58 : decode cX12_best 58 = .ok (.iload_n 2, 1) := by decide +kernel
theorem dX12_best_59 : decode cX12_best 59 = .ok (.if_icmp .ge 75, 3) := by decide +kernel
theorem dX12_best_62 : decode cX12_best 62 = .ok (.iconst 0, 1) := by decide +kernel
theorem dX12_best_63 : decode cX12_best 63 = .ok (.istore 7, 2) := by decide +kernel
theorem dX12_best_65 : decode cX12_best 65 = .ok (.aload_n 0, 1) := by decide +kernel
theorem dX12_best_66 : decode cX12_best 66 = .ok (.iload 7, 2) := by decide +kernel
theorem dX12_best_68 : decode cX12_best 68 = .ok (.iload 4, 2) := by decide +kernel
theorem dX12_best_70 : decode cX12_best 70 = .ok (.iload 5, 2) := by decide +kernel
theorem dX12_best_72 : decode cX12_best 72 = .ok (.iload_n 2, 1) := by decide +kernel
theorem dX12_best_73 : decode cX12_best 73 = .ok (.iload 6, 2) := by decide +kernel
theorem dX12_best_75 : decode cX12_best 75 = .ok (.isub, 1) := by decide +kernel
theorem dX12_best_76 : decode cX12_best 76 = .ok (.iconst 1, 1) := by decide +kernel
theorem dX12_best_77 : decode cX12_best 77 = .ok (.isub, 1) := by decide +kernel
theorem dX12_best_78 : decode cX12_best 78 = .ok (.iload_n 3, 1) := by decide +kernel
theorem dX12_best_79 : decode cX12_best 79 = .ok (.invokevirtual 561, 3) := by decide +kernel
theorem dX12_best_82 : decode cX12_best 82 = .ok (.ifCond .ne 9, 3) := by decide +kernel
theorem dX12_best_85 : decode cX12_best 85 = .ok (.iinc 7 1, 3) := by decide +kernel
theorem dX12_best_88 : decode cX12_best 88 = .ok (.goto (-23), 3) := by decide +kernel
theorem dX12_best_91 : decode cX12_best 91 = .ok (.aload_n 0, 1) := by decide +kernel
theorem dX12_best_92 : decode cX12_best 92 = .ok (.getfield 336, 3) := by decide +kernel
theorem dX12_best_95 : decode cX12_best 95 = .ok (.iload 6, 2) := by decide +kernel
theorem dX12_best_97 : decode cX12_best 97 = .ok (.iload 7, 2) := by decide +kernel
theorem dX12_best_99 : decode cX12_best 99 = .ok (.iastore, 1) := by decide +kernel
theorem dX12_best_100 : decode cX12_best 100 = .ok (.aload_n 0, 1) := by decide +kernel
theorem dX12_best_101 : decode cX12_best 101 = .ok (.iload 7, 2) := by decide +kernel
theorem dX12_best_103 : decode cX12_best 103 = .ok (.iload 5, 2) := by decide +kernel
theorem dX12_best_105 : decode cX12_best 105 = .ok (.invokevirtual 549, 3) := by decide +kernel
theorem dX12_best_108 : decode cX12_best 108 = .ok (.istore 5, 2) := by decide +kernel
theorem dX12_best_110 : decode cX12_best 110 = .ok (.aload_n 0, 1) := by decide +kernel
theorem dX12_best_111 : decode cX12_best 111 = .ok (.getfield 339, 3) := by decide +kernel
theorem dX12_best_114 : decode cX12_best 114 = .ok (.iload 6, 2) := by decide +kernel
theorem dX12_best_116 : decode cX12_best 116 = .ok (.iload 5, 2) := by decide +kernel
theorem dX12_best_118 : decode cX12_best 118 = .ok (.iastore, 1) := by decide +kernel
theorem dX12_best_119 : decode cX12_best 119 = .ok (.iload 4, 2) := by decide +kernel
theorem dX12_best_121 : decode cX12_best 121 = .ok (.iconst 1, 1) := by decide +kernel
theorem dX12_best_122 : decode cX12_best 122 = .ok (.iload 7, 2) := by decide +kernel
theorem dX12_best_124 : decode cX12_best 124 = .ok (.ishl, 1) := by decide +kernel
theorem dX12_best_125 : decode cX12_best 125 = .ok (.ior, 1) := by decide +kernel
theorem dX12_best_126 : decode cX12_best 126 = .ok (.istore 4, 2) := by decide +kernel
theorem dX12_best_128 : decode cX12_best 128 = .ok (.iinc 6 1, 3) := by decide +kernel
theorem dX12_best_131 : decode cX12_best 131 = .ok (.goto (-75), 3) := by decide +kernel
theorem dX12_best_134 : decode cX12_best 134 = .ok (.aload_n 0, 1) := by decide +kernel
theorem dX12_best_135 : decode cX12_best 135 = .ok (.iload_n 2, 1) := by decide +kernel
theorem dX12_best_136 : decode cX12_best 136 = .ok (.putfield 391, 3) := by decide +kernel
theorem dX12_best_139 : decode cX12_best 139 = .ok (.iload_n 2, 1) := by decide +kernel
theorem dX12_best_140 : decode cX12_best 140 = .ok (.ireturn, 1) := by decide +kernel
theorem dX12_leads_0 : decode cX12_leads 0 = .ok (.iload_n 2, 1) := by decide +kernel
theorem dX12_leads_1 : decode cX12_leads 1 = .ok (.iload_n 1, 1) := by decide +kernel
theorem dX12_leads_2 : decode cX12_leads 2 = .ok (.ishr, 1) := by decide +kernel
theorem dX12_leads_3 : decode cX12_leads 3 = .ok (.iconst 1, 1) := by decide +kernel
theorem dX12_leads_4 : decode cX12_leads 4 = .ok (.iand, 1) := by decide +kernel
theorem dX12_leads_5 : decode cX12_leads 5 = .ok (.iconst 1, 1) := by decide +kernel
theorem dX12_leads_6 : decode cX12_leads 6 = .ok (.if_icmp .ne 5, 3) := by decide +kernel
theorem dX12_leads_9 : decode cX12_leads 9 = .ok (.iconst 0, 1) := by decide +kernel
theorem dX12_leads_10 : decode cX12_leads 10 = .ok (.ireturn, 1) := by decide +kernel
theorem dX12_leads_11 : decode cX12_leads 11 = .ok (.aload_n 0, 1) := by decide +kernel
theorem dX12_leads_12 : decode cX12_leads 12 = .ok (.aload_n 0, 1) := by decide +kernel
theorem dX12_leads_13 : decode cX12_leads 13 = .ok (.iload_n 1, 1) := by decide +kernel
theorem dX12_leads_14 : decode cX12_leads 14 = .ok (.iload_n 3, 1) := by decide +kernel
theorem dX12_leads_15 : decode cX12_leads 15 = .ok (.invokevirtual 549, 3) := by decide +kernel
theorem dX12_leads_18 : decode cX12_leads 18 = .ok (.iload_n 2, 1) := by decide +kernel
theorem dX12_leads_19 : decode cX12_leads 19 = .ok (.iconst 1, 1) := by decide +kernel
theorem dX12_leads_20 : decode cX12_leads 20 = .ok (.iload_n 1, 1) := by decide +kernel
theorem dX12_leads_21 : decode cX12_leads 21 = .ok (.ishl, 1) := by decide +kernel
theorem dX12_leads_22 : decode cX12_leads 22 = .ok (.ior, 1) := by decide +kernel
theorem dX12_leads_23 : decode cX12_leads 23 = .ok (.invokevirtual 555, 3) := by decide +kernel
theorem dX12_leads_26 : decode cX12_leads 26 = .ok (.aload_n 0, 1) := by decide +kernel
theorem dX12_leads_27 : decode cX12_leads 27 = .ok (.iload 4, 2) := by decide +kernel
theorem dX12_leads_29 : decode cX12_leads 29 = .ok (.invokevirtual 558, 3) := by decide +kernel
theorem dX12_leads_32 : decode cX12_leads 32 = .ok (.iload 5, 2) := by decide +kernel
theorem dX12_leads_34 : decode cX12_leads 34 = .ok (.if_icmp .gt 7, 3) := by decide +kernel
theorem dX12_leads_37 : decode cX12_leads 37 = .ok (.iconst 1, 1) := by decide +kernel
theorem dX12_leads_38 : decode cX12_leads 38 = .ok (.goto 4, 3) := by decide +kernel
theorem dX12_leads_41 : decode cX12_leads 41 = .ok (.iconst 0, 1) := by decide +kernel
theorem dX12_leads_42 : decode cX12_leads 42 = .ok (.ireturn, 1) := by decide +kernel
theorem dX12_goes_0 : decode cX12_goes 0 = .ok (.iload_n 1, 1) := by decide +kernel
theorem dX12_goes_1 : decode cX12_goes 1 = .ok (.i2l, 1) := by decide +kernel
theorem dX12_goes_2 : decode cX12_goes 2 = .ok (.lconst 0, 1) := by decide +kernel
theorem dX12_goes_3 : decode cX12_goes 3 = .ok (.aload_n 0, 1) := by decide +kernel
theorem dX12_goes_4 : decode cX12_goes 4 = .ok (.getfield 391, 3) := by decide +kernel
theorem dX12_goes_7 : decode cX12_goes 7 = .ok (.i2l, 1) := by decide +kernel
theorem dX12_goes_8 : decode cX12_goes 8 = .ok (.lconst 1, 1) := by decide +kernel
theorem dX12_goes_9 : decode cX12_goes 9 = .ok (.lsub, 1) := by decide +kernel
theorem dX12_goes_10 : decode cX12_goes 10 = .ok (.invokestatic 52, 3) := by decide +kernel
theorem dX12_goes_13 : decode cX12_goes 13 = .ok (.ifCond .ne 7, 3) := by decide +kernel
theorem dX12_goes_16 : decode cX12_goes 16 = .ok (.iconst (-1), 1) := by decide +kernel
theorem dX12_goes_17 : decode cX12_goes 17 = .ok (.goto 31, 3) := by decide +kernel
theorem dX12_goes_20 : decode cX12_goes 20 = .ok (.iload_n 2, 1) := by decide +kernel
theorem dX12_goes_21 : decode cX12_goes 21 = .ok (.ifCond .ne 12, 3) := by decide +kernel
theorem dX12_goes_24 : decode cX12_goes 24 = .ok (.aload_n 0, 1) := by decide +kernel
theorem dX12_goes_25 : decode cX12_goes 25 = .ok (.getfield 336, 3) := by decide +kernel
theorem dX12_goes_28 : decode cX12_goes 28 = .ok (.iload_n 1, 1) := by decide +kernel
theorem dX12_goes_29 : decode cX12_goes 29 = .ok (.iaload, 1) := by decide +kernel
theorem dX12_goes_30 : decode cX12_goes 30 = .ok (.goto 18, 3) := by decide +kernel
theorem dX12_goes_33 : decode cX12_goes 33 = .ok (.iload_n 2, 1) := by decide +kernel
theorem dX12_goes_34 : decode cX12_goes 34 = .ok (.iconst 1, 1) := by decide +kernel
theorem dX12_goes_35 : decode cX12_goes 35 = .ok (.if_icmp .ne 12, 3) := by decide +kernel
theorem dX12_goes_38 : decode cX12_goes 38 = .ok (.aload_n 0, 1) := by decide +kernel
theorem dX12_goes_39 : decode cX12_goes 39 = .ok (.getfield 339, 3) := by decide +kernel
theorem dX12_goes_42 : decode cX12_goes 42 = .ok (.iload_n 1, 1) := by decide +kernel
theorem dX12_goes_43 : decode cX12_goes 43 = .ok (.iaload, 1) := by decide +kernel
theorem dX12_goes_44 : decode cX12_goes 44 = .ok (.goto 4, 3) := by decide +kernel
theorem dX12_goes_47 : decode cX12_goes 47 = .ok (.iconst (-1), 1) := by decide +kernel
theorem dX12_goes_48 : decode cX12_goes 48 = .ok (.ireturn, 1) := by decide +kernel
theorem dX12_drawOf_0 : decode cX12_drawOf 0 = .ok (.iload_n 1, 1) := by decide +kernel
theorem dX12_drawOf_1 : decode cX12_drawOf 1 = .ok (.istore_n 3, 1) := by decide +kernel
theorem dX12_drawOf_2 : decode cX12_drawOf 2 = .ok (.iconst 0, 1) := by decide +kernel
theorem dX12_drawOf_3 : decode cX12_drawOf 3 = .ok (.istore 4, 2) := by decide +kernel
theorem dX12_drawOf_5 : decode cX12_drawOf 5 = .ok (.iload 4, 2) := by decide +kernel
theorem dX12_drawOf_7 : decode cX12_drawOf 7 = .ok (.iload_n 2, 1) := by decide +kernel
theorem dX12_drawOf_8 : decode cX12_drawOf 8 = .ok (.if_icmp .ge 83, 3) := by decide +kernel
theorem dX12_drawOf_11 : decode cX12_drawOf 11 = .ok (.aload_n 0, 1) := by decide +kernel
theorem dX12_drawOf_12 : decode cX12_drawOf 12 = .ok (.iload_n 3, 1) := by decide +kernel
theorem dX12_drawOf_13 : decode cX12_drawOf 13 = .ok (.invokestatic 552, 3) := by decide +kernel
theorem dX12_drawOf_16 : decode cX12_drawOf 16 = .ok (.invokevirtual 436, 3) := by decide +kernel
theorem dX12_drawOf_19 : decode cX12_drawOf 19 = .ok (.istore 5, 2) := by decide +kernel
theorem dX12_drawOf_21 : decode cX12_drawOf 21 = .ok (.iconst 0, 1) := by decide +kernel
theorem dX12_drawOf_22 : decode cX12_drawOf 22 = .ok (.istore 6, 2) := by decide +kernel
theorem dX12_drawOf_24 : decode cX12_drawOf 24 = .ok (.iload_n 3, 1) := by decide +kernel
theorem dX12_drawOf_25 : decode cX12_drawOf 25 = .ok (.iload 6, 2) := by decide +kernel
theorem dX12_drawOf_27 : decode cX12_drawOf 27 = .ok (.ishr, 1) := by decide +kernel
theorem dX12_drawOf_28 : decode cX12_drawOf 28 = .ok (.iconst 1, 1) := by decide +kernel
theorem dX12_drawOf_29 : decode cX12_drawOf 29 = .ok (.iand, 1) := by decide +kernel
theorem dX12_drawOf_30 : decode cX12_drawOf 30 = .ok (.ifCond .eq 8, 3) := by decide +kernel
theorem dX12_drawOf_33 : decode cX12_drawOf 33 = .ok (.iload 5, 2) := by decide +kernel
theorem dX12_drawOf_35 : decode cX12_drawOf 35 = .ok (.ifCond .le 20, 3) := by decide +kernel
theorem dX12_drawOf_38 : decode cX12_drawOf 38 = .ok (.iload 5, 2) := by decide +kernel
theorem dX12_drawOf_40 : decode cX12_drawOf 40 = .ok (.iload_n 3, 1) := by decide +kernel
theorem dX12_drawOf_41 : decode cX12_drawOf 41 = .ok (.iload 6, 2) := by decide +kernel
theorem dX12_drawOf_43 : decode cX12_drawOf 43 = .ok (.ishr, 1) := by decide +kernel
theorem dX12_drawOf_44 : decode cX12_drawOf 44 = .ok (.iconst 1, 1) := by decide +kernel
theorem dX12_drawOf_45 : decode cX12_drawOf 45 = .ok (.iand, 1) := by decide +kernel
theorem dX12_drawOf_46 : decode cX12_drawOf 46 = .ok (.isub, 1) := by decide +kernel
theorem dX12_drawOf_47 : decode cX12_drawOf 47 = .ok (.istore 5, 2) := by decide +kernel
theorem dX12_drawOf_49 : decode cX12_drawOf 49 = .ok (.iinc 6 1, 3) := by decide +kernel
theorem dX12_drawOf_52 : decode cX12_drawOf 52 = .ok (.goto (-28), 3) := by decide +kernel
theorem dX12_drawOf_55 : decode cX12_drawOf 55 = .ok (.aload_n 0, 1) := by decide +kernel
theorem dX12_drawOf_56 : decode cX12_drawOf 56 = .ok (.getfield 342, 3) := by decide +kernel
theorem dX12_drawOf_59 : decode cX12_drawOf 59 = .ok (.aload_n 0, 1) := by decide +kernel
theorem dX12_drawOf_60 : decode cX12_drawOf 60 = .ok (.getfield 388, 3) := by decide +kernel
theorem dX12_drawOf_63 : decode cX12_drawOf 63 = .ok (.iload 6, 2) := by decide +kernel
theorem dX12_drawOf_65 : decode cX12_drawOf 65 = .ok (.iastore, 1) := by decide +kernel
theorem dX12_drawOf_66 : decode cX12_drawOf 66 = .ok (.aload_n 0, 1) := by decide +kernel
theorem dX12_drawOf_67 : decode cX12_drawOf 67 = .ok (.dup, 1) := by decide +kernel
theorem dX12_drawOf_68 : decode cX12_drawOf 68 = .ok (.getfield 388, 3) := by decide +kernel
theorem dX12_drawOf_71 : decode cX12_drawOf 71 = .ok (.iconst 1, 1) := by decide +kernel
theorem dX12_drawOf_72 : decode cX12_drawOf 72 = .ok (.iadd, 1) := by decide +kernel
theorem dX12_drawOf_73 : decode cX12_drawOf 73 = .ok (.putfield 388, 3) := by decide +kernel
theorem dX12_drawOf_76 : decode cX12_drawOf 76 = .ok (.iload_n 3, 1) := by decide +kernel
theorem dX12_drawOf_77 : decode cX12_drawOf 77 = .ok (.iconst 1, 1) := by decide +kernel
theorem dX12_drawOf_78 : decode cX12_drawOf 78 = .ok (.iload 6, 2) := by decide +kernel
theorem dX12_drawOf_80 : decode cX12_drawOf 80 = .ok (.ishl, 1) := by decide +kernel
theorem dX12_drawOf_81 : decode cX12_drawOf 81 = .ok (.iconst (-1), 1) := by decide +kernel
theorem dX12_drawOf_82 : decode cX12_drawOf 82 = .ok (.ixor, 1) := by decide +kernel
theorem dX12_drawOf_83 : decode cX12_drawOf 83 = .ok (.iand, 1) := by decide +kernel
theorem dX12_drawOf_84 : decode cX12_drawOf 84 = .ok (.istore_n 3, 1) := by decide +kernel
theorem dX12_drawOf_85 : decode cX12_drawOf 85 = .ok (.iinc 4 1, 3) := by decide +kernel
theorem dX12_drawOf_88 : decode cX12_drawOf 88 = .ok (.goto (-83), 3) := by decide +kernel
theorem dX12_drawOf_91 : decode cX12_drawOf 91 = .ok (.iload_n 3, 1) := by decide +kernel
theorem dX12_drawOf_92 : decode cX12_drawOf 92 = .ok (.ireturn, 1) := by decide +kernel
theorem dX12_list_0 : decode cX12_list 0 = .ok (.iload_n 1, 1) := by decide +kernel
theorem dX12_list_1 : decode cX12_list 1 = .ok (.ifCond .lt 54, 3) := by decide +kernel
theorem dX12_list_4 : decode cX12_list 4 = .ok (.iload_n 2, 1) := by decide +kernel
theorem dX12_list_5 : decode cX12_list 5 = .ok (.i2l, 1) := by decide +kernel
theorem dX12_list_6 : decode cX12_list 6 = .ok (.lconst 1, 1) := by decide +kernel
theorem dX12_list_7 : decode cX12_list 7 = .ok (.ldc2_w 565, 3) := by decide +kernel
theorem dX12_list_10 : decode cX12_list 10 = .ok (.invokestatic 52, 3) := by decide +kernel
theorem dX12_list_13 : decode cX12_list 13 = .ok (.ifCond .eq 42, 3) := by decide +kernel
theorem dX12_list_16 : decode cX12_list 16 = .ok (.iload_n 3, 1) := by decide +kernel
theorem dX12_list_17 : decode cX12_list 17 = .ok (.i2l, 1) := by decide +kernel
theorem dX12_list_18 : decode cX12_list 18 = .ok (.lconst 0, 1) := by decide +kernel
theorem dX12_list_19 : decode cX12_list 19 = .ok (.lconst 1, 1) := by decide +kernel
theorem dX12_list_20 : decode cX12_list 20 = .ok (.iload_n 2, 1) := by decide +kernel
theorem dX12_list_21 : decode cX12_list 21 = .ok (.lshl, 1) := by decide +kernel
theorem dX12_list_22 : decode cX12_list 22 = .ok (.lconst 1, 1) := by decide +kernel
theorem dX12_list_23 : decode cX12_list 23 = .ok (.lsub, 1) := by decide +kernel
theorem dX12_list_24 : decode cX12_list 24 = .ok (.invokestatic 52, 3) := by decide +kernel
theorem dX12_list_27 : decode cX12_list 27 = .ok (.ifCond .eq 28, 3) := by decide +kernel
theorem dX12_list_30 : decode cX12_list 30 = .ok (.iload 5, 2) := by decide +kernel
theorem dX12_list_32 : decode cX12_list 32 = .ok (.i2l, 1) := by decide +kernel
theorem dX12_list_33 : decode cX12_list 33 = .ok (.lconst 0, 1) := by decide +kernel
theorem dX12_list_34 : decode cX12_list 34 = .ok (.lconst 1, 1) := by decide +kernel
theorem dX12_list_35 : decode cX12_list 35 = .ok (.iload_n 2, 1) := by decide +kernel
theorem dX12_list_36 : decode cX12_list 36 = .ok (.lshl, 1) := by decide +kernel
theorem dX12_list_37 : decode cX12_list 37 = .ok (.lconst 1, 1) := by decide +kernel
theorem dX12_list_38 : decode cX12_list 38 = .ok (.lsub, 1) := by decide +kernel
theorem dX12_list_39 : decode cX12_list 39 = .ok (.invokestatic 52, 3) := by decide +kernel
theorem dX12_list_42 : decode cX12_list 42 = .ok (.ifCond .eq 13, 3) := by decide +kernel
theorem dX12_list_45 : decode cX12_list 45 = .ok (.iload 4, 2) := by decide +kernel
theorem dX12_list_47 : decode cX12_list 47 = .ok (.ifCond .lt 8, 3) := by decide +kernel
theorem dX12_list_50 : decode cX12_list 50 = .ok (.iload 6, 2) := by decide +kernel
theorem dX12_list_52 : decode cX12_list 52 = .ok (.ifCond .ge 6, 3) := by decide +kernel
theorem dX12_list_55 : decode cX12_list 55 = .ok (.bipush (-2), 2) := by decide +kernel
theorem dX12_list_57 : decode cX12_list 57 = .ok (.ireturn, 1) := by decide +kernel
theorem dX12_list_58 : decode cX12_list 58 = .ok (.iload 5, 2) := by decide +kernel
theorem dX12_list_60 : decode cX12_list 60 = .ok (.iload_n 3, 1) := by decide +kernel
theorem dX12_list_61 : decode cX12_list 61 = .ok (.iconst (-1), 1) := by decide +kernel
theorem dX12_list_62 : decode cX12_list 62 = .ok (.ixor, 1) := by decide +kernel
theorem dX12_list_63 : decode cX12_list 63 = .ok (.iand, 1) := by decide +kernel
theorem dX12_list_64 : decode cX12_list 64 = .ok (.istore 7, 2) := by decide +kernel
theorem dX12_list_66 : decode cX12_list 66 = .ok (.iload 4, 2) := by decide +kernel
theorem dX12_list_68 : decode cX12_list 68 = .ok (.iload_n 3, 1) := by decide +kernel
theorem dX12_list_69 : decode cX12_list 69 = .ok (.invokestatic 552, 3) := by decide +kernel
theorem dX12_list_72 : decode cX12_list 72 = .ok (.if_icmp .gt 13, 3) := by decide +kernel
theorem dX12_list_75 : decode cX12_list 75 = .ok (.iload 6, 2) := by decide +kernel
theorem dX12_list_77 : decode cX12_list 77 = .ok (.iload 7, 2) := by decide +kernel
theorem dX12_list_79 : decode cX12_list 79 = .ok (.invokestatic 552, 3) := by decide +kernel
theorem dX12_list_82 : decode cX12_list 82 = .ok (.if_icmp .le 5, 3) := by decide +kernel
theorem dX12_list_85 : decode cX12_list 85 = .ok (.iconst (-1), 1) := by decide +kernel
theorem dX12_list_86 : decode cX12_list 86 = .ok (.ireturn, 1) := by decide +kernel
theorem dX12_list_87 : decode cX12_list 87 = .ok (.aload_n 0, 1) := by decide +kernel
theorem dX12_list_88 : decode cX12_list 88 = .ok (.getfield 248, 3) := by decide +kernel
theorem dX12_list_91 : decode cX12_list 91 = .ok (.lstore 8, 2) := by decide +kernel
theorem dX12_list_93 : decode cX12_list 93 = .ok (.aload_n 0, 1) := by decide +kernel
theorem dX12_list_94 : decode cX12_list 94 = .ok (.iload_n 1, 1) := by decide +kernel
theorem dX12_list_95 : decode cX12_list 95 = .ok (.i2l, 1) := by decide +kernel
theorem dX12_list_96 : decode cX12_list 96 = .ok (.putfield 248, 3) := by decide +kernel
theorem dX12_list_99 : decode cX12_list 99 = .ok (.aload_n 0, 1) := by decide +kernel
theorem dX12_list_100 : decode cX12_list 100 = .ok (.iconst 0, 1) := by decide +kernel
theorem dX12_list_101 : decode cX12_list 101 = .ok (.putfield 388, 3) := by decide +kernel
theorem dX12_list_104 : decode cX12_list 104 = .ok (.aload_n 0, 1) := by decide +kernel
theorem dX12_list_105 : decode cX12_list 105 = .ok (.iload_n 3, 1) := by decide +kernel
theorem dX12_list_106 : decode cX12_list 106 = .ok (.iload 4, 2) := by decide +kernel
theorem dX12_list_108 : decode cX12_list 108 = .ok (.invokevirtual 567, 3) := by decide +kernel
theorem dX12_list_111 : decode cX12_list 111 = .ok (.aload_n 0, 1) := by decide +kernel
theorem dX12_list_112 : decode cX12_list 112 = .ok (.iload 7, 2) := by decide +kernel
theorem dX12_list_114 : decode cX12_list 114 = .ok (.iload 6, 2) := by decide +kernel
theorem dX12_list_116 : decode cX12_list 116 = .ok (.invokevirtual 567, 3) := by decide +kernel
theorem dX12_list_119 : decode cX12_list 119 = .ok (.ior, 1) := by decide +kernel
theorem dX12_list_120 : decode cX12_list 120 = .ok (.iload_n 3, 1) := by decide +kernel
theorem dX12_list_121 : decode cX12_list 121 = .ok (.iload 7, 2) := by decide +kernel
theorem dX12_list_123 : decode cX12_list 123 = .ok (.ior, 1) := by decide +kernel
theorem dX12_list_124 : decode cX12_list 124 = .ok (.iconst (-1), 1) := by decide +kernel
theorem dX12_list_125 : decode cX12_list 125 = .ok (.ixor, 1) := by decide +kernel
theorem dX12_list_126 : decode cX12_list 126 = .ok (.lconst 1, 1) := by decide +kernel
theorem dX12_list_127 : decode cX12_list 127 = .ok (.iload_n 2, 1) := by decide +kernel
theorem dX12_list_128 : decode cX12_list 128 = .ok (.lshl, 1) := by decide +kernel
theorem dX12_list_129 : decode cX12_list 129 = .ok (.lconst 1, 1) := by decide +kernel
theorem dX12_list_130 : decode cX12_list 130 = .ok (.lsub, 1) := by decide +kernel
theorem dX12_list_131 : decode cX12_list 131 = .ok (.l2i, 1) := by decide +kernel
theorem dX12_list_132 : decode cX12_list 132 = .ok (.iand, 1) := by decide +kernel
theorem dX12_list_133 : decode cX12_list 133 = .ok (.ior, 1) := by decide +kernel
theorem dX12_list_134 : decode cX12_list 134 = .ok (.istore 10, 2) := by decide +kernel
theorem dX12_list_136 : decode cX12_list 136 = .ok (.aload_n 0, 1) := by decide +kernel
theorem dX12_list_137 : decode cX12_list 137 = .ok (.iload 10, 2) := by decide +kernel
theorem dX12_list_139 : decode cX12_list 139 = .ok (.iload 10, 2) := by decide +kernel
theorem dX12_list_141 : decode cX12_list 141 = .ok (.invokestatic 552, 3) := by decide +kernel
theorem dX12_list_144 : decode cX12_list 144 = .ok (.invokevirtual 567, 3) := by decide +kernel
theorem dX12_list_147 : decode cX12_list 147 = .ok (.pop, 1) := by decide +kernel
theorem dX12_list_148 : decode cX12_list 148 = .ok (.aload_n 0, 1) := by decide +kernel
theorem dX12_list_149 : decode cX12_list 149 = .ok (.lload 8, 2) := by decide +kernel
theorem dX12_list_151 : decode cX12_list 151 = .ok (.putfield 248, 3) := by decide +kernel
theorem dX12_list_154 : decode cX12_list 154 = .ok (.aload_n 0, 1) := by decide +kernel
theorem dX12_list_155 : decode cX12_list 155 = .ok (.getfield 388, 3) := by decide +kernel
theorem dX12_list_158 : decode cX12_list 158 = .ok (.ireturn, 1) := by decide +kernel
theorem dX12_listed_0 : decode cX12_listed 0 = .ok (.iload_n 1, 1) := by decide +kernel
theorem dX12_listed_1 : decode cX12_listed 1 = .ok (.i2l, 1) := by decide +kernel
theorem dX12_listed_2 : decode cX12_listed 2 = .ok (.lconst 0, 1) := by decide +kernel
theorem dX12_listed_3 : decode cX12_listed 3 = .ok (.aload_n 0, 1) := by decide +kernel
theorem dX12_listed_4 : decode cX12_listed 4 = .ok (.getfield 388, 3) := by decide +kernel
theorem dX12_listed_7 : decode cX12_listed 7 = .ok (.i2l, 1) := by decide +kernel
theorem dX12_listed_8 : decode cX12_listed 8 = .ok (.lconst 1, 1) := by decide +kernel
theorem dX12_listed_9 : decode cX12_listed 9 = .ok (.lsub, 1) := by decide +kernel
theorem dX12_listed_10 : decode cX12_listed 10 = .ok (.invokestatic 52, 3) := by decide +kernel
theorem dX12_listed_13 : decode cX12_listed 13 = .ok (.ifCond .eq 12, 3) := by decide +kernel
theorem dX12_listed_16 : decode cX12_listed 16 = .ok (.aload_n 0, 1) := by decide +kernel
theorem dX12_listed_17 : decode cX12_listed 17 = .ok (.getfield 342, 3) := by decide +kernel
theorem dX12_listed_20 : decode cX12_listed 20 = .ok (.iload_n 1, 1) := by decide +kernel
theorem dX12_listed_21 : decode cX12_listed 21 = .ok (.iaload, 1) := by decide +kernel
theorem dX12_listed_22 : decode cX12_listed 22 = .ok (.goto 4, 3) := by decide +kernel
theorem dX12_listed_25 : decode cX12_listed 25 = .ok (.iconst (-1), 1) := by decide +kernel
theorem dX12_listed_26 : decode cX12_listed 26 = .ok (.ireturn, 1) := by decide +kernel
theorem dX12_across_0 : decode cX12_across 0 = .ok (.iload_n 1, 1) := by decide +kernel
theorem dX12_across_1 : decode cX12_across 1 = .ok (.i2l, 1) := by decide +kernel
theorem dX12_across_2 : decode cX12_across 2 = .ok (.lconst 0, 1) := by decide +kernel
theorem dX12_across_3 : decode cX12_across 3 = .ok (.aload_n 0, 1) := by decide +kernel
theorem dX12_across_4 : decode cX12_across 4 = .ok (.getfield 219, 3) := by decide +kernel
theorem dX12_across_7 : decode cX12_across 7 = .ok (.iconst 0, 1) := by decide +kernel
theorem dX12_across_8 : decode cX12_across 8 = .ok (.iaload, 1) := by decide +kernel
theorem dX12_across_9 : decode cX12_across 9 = .ok (.i2l, 1) := by decide +kernel
theorem dX12_across_10 : decode cX12_across 10 = .ok (.invokestatic 52, 3) := by decide +kernel
theorem dX12_across_13 : decode cX12_across 13 = .ok (.ifCond .eq 25, 3) := by decide +kernel
theorem dX12_across_16 : decode cX12_across 16 = .ok (.iload_n 2, 1) := by decide +kernel
theorem dX12_across_17 : decode cX12_across 17 = .ok (.i2l, 1) := by decide +kernel
theorem dX12_across_18 : decode cX12_across 18 = .ok (.lconst 0, 1) := by decide +kernel
theorem dX12_across_19 : decode cX12_across 19 = .ok (.ldc2_w 505, 3) := by decide +kernel
theorem dX12_across_22 : decode cX12_across 22 = .ok (.invokestatic 52, 3) := by decide +kernel
theorem dX12_across_25 : decode cX12_across 25 = .ok (.ifCond .eq 13, 3) := by decide +kernel
theorem dX12_across_28 : decode cX12_across 28 = .ok (.iload_n 3, 1) := by decide +kernel
theorem dX12_across_29 : decode cX12_across 29 = .ok (.i2l, 1) := by decide +kernel
theorem dX12_across_30 : decode cX12_across 30 = .ok (.lconst 0, 1) := by decide +kernel
theorem dX12_across_31 : decode cX12_across 31 = .ok (.lconst 1, 1) := by decide +kernel
theorem dX12_across_32 : decode cX12_across 32 = .ok (.invokestatic 52, 3) := by decide +kernel
theorem dX12_across_35 : decode cX12_across 35 = .ok (.ifCond .ne 6, 3) := by decide +kernel
theorem dX12_across_38 : decode cX12_across 38 = .ok (.bipush (-2), 2) := by decide +kernel
theorem dX12_across_40 : decode cX12_across 40 = .ok (.ireturn, 1) := by decide +kernel
theorem dX12_across_41 : decode cX12_across 41 = .ok (.iconst 0, 1) := by decide +kernel
theorem dX12_across_42 : decode cX12_across 42 = .ok (.istore 4, 2) := by decide +kernel
theorem dX12_across_44 : decode cX12_across 44 = .ok (.iconst (-1), 1) := by decide +kernel
theorem dX12_across_45 : decode cX12_across 45 = .ok (.istore 5, 2) := by decide +kernel
theorem dX12_across_47 : decode cX12_across 47 = .ok (.iconst 0, 1) := by decide +kernel
theorem dX12_across_48 : decode cX12_across 48 = .ok (.istore 6, 2) := by decide +kernel
theorem dX12_across_50 : decode cX12_across 50 = .ok (.iload 6, 2) := by decide +kernel
theorem dX12_across_52 : decode cX12_across 52 = .ok (.iload_n 1, 1) := by decide +kernel
theorem dX12_across_53 : decode cX12_across 53 = .ok (.iadd, 1) := by decide +kernel
theorem dX12_across_54 : decode cX12_across 54 = .ok (.aload_n 0, 1) := by decide +kernel
theorem dX12_across_55 : decode cX12_across 55 = .ok (.getfield 219, 3) := by decide +kernel
theorem dX12_across_58 : decode cX12_across 58 = .ok (.iconst 0, 1) := by decide +kernel
theorem dX12_across_59 : decode cX12_across 59 = .ok (.iaload, 1) := by decide +kernel
theorem dX12_across_60 : decode cX12_across 60 = .ok (.if_icmp .gt 106, 3) := by decide +kernel
theorem dX12_across_63 : decode cX12_across 63 = .ok (.iconst 0, 1) := by decide +kernel
theorem dX12_across_64 : decode cX12_across 64 = .ok (.istore 7, 2) := by decide +kernel
theorem dX12_across_66 : decode cX12_across 66 = .ok (.iconst 0, 1) := by decide +kernel
theorem dX12_across_67 : decode cX12_across 67 = .ok (.istore 8, 2) := by decide +kernel
theorem dX12_across_69 : decode cX12_across 69 = .ok (.iload 8, 2) := by decide +kernel
theorem dX12_across_71 : decode cX12_across 71 = .ok (.aload_n 0, 1) := by decide +kernel
theorem dX12_across_72 : decode cX12_across 72 = .ok (.getfield 355, 3) := by decide +kernel
theorem dX12_across_75 : decode cX12_across 75 = .ok (.if_icmp .ge 67, 3) := by decide +kernel
theorem dX12_across_78 : decode cX12_across 78 = .ok (.iload 6, 2) := by decide +kernel
theorem dX12_across_80 : decode cX12_across 80 = .ok (.aload_n 0, 1) := by decide +kernel
theorem dX12_across_81 : decode cX12_across 81 = .ok (.getfield 222, 3) := by decide +kernel
theorem dX12_across_84 : decode cX12_across 84 = .ok (.iload 8, 2) := by decide +kernel
theorem dX12_across_86 : decode cX12_across 86 = .ok (.iaload, 1) := by decide +kernel
theorem dX12_across_87 : decode cX12_across 87 = .ok (.iload_n 2, 1) := by decide +kernel
theorem dX12_across_88 : decode cX12_across 88 = .ok (.isub, 1) := by decide +kernel
theorem dX12_across_89 : decode cX12_across 89 = .ok (.invokestatic 419, 3) := by decide +kernel
theorem dX12_across_92 : decode cX12_across 92 = .ok (.istore 9, 2) := by decide +kernel
theorem dX12_across_94 : decode cX12_across 94 = .ok (.iload 6, 2) := by decide +kernel
theorem dX12_across_96 : decode cX12_across 96 = .ok (.iload_n 1, 1) := by decide +kernel
theorem dX12_across_97 : decode cX12_across 97 = .ok (.iadd, 1) := by decide +kernel
theorem dX12_across_98 : decode cX12_across 98 = .ok (.aload_n 0, 1) := by decide +kernel
theorem dX12_across_99 : decode cX12_across 99 = .ok (.getfield 222, 3) := by decide +kernel
theorem dX12_across_102 : decode cX12_across 102 = .ok (.iload 8, 2) := by decide +kernel
theorem dX12_across_104 : decode cX12_across 104 = .ok (.iaload, 1) := by decide +kernel
theorem dX12_across_105 : decode cX12_across 105 = .ok (.iload_n 2, 1) := by decide +kernel
theorem dX12_across_106 : decode cX12_across 106 = .ok (.iadd, 1) := by decide +kernel
theorem dX12_across_107 : decode cX12_across 107 = .ok (.invokestatic 433, 3) := by decide +kernel
theorem dX12_across_110 : decode cX12_across 110 = .ok (.istore 10, 2) := by decide +kernel
theorem dX12_across_112 : decode cX12_across 112 = .ok (.iload 7, 2) := by decide +kernel
theorem dX12_across_114 : decode cX12_across 114 = .ok (.aload_n 0, 1) := by decide +kernel
theorem dX12_across_115 : decode cX12_across 115 = .ok (.getfield 228, 3) := by decide +kernel
theorem dX12_across_118 : decode cX12_across 118 = .ok (.iload 8, 2) := by decide +kernel
theorem dX12_across_120 : decode cX12_across 120 = .ok (.iaload, 1) := by decide +kernel
theorem dX12_across_121 : decode cX12_across 121 = .ok (.iconst 0, 1) := by decide +kernel
theorem dX12_across_122 : decode cX12_across 122 = .ok (.iload 10, 2) := by decide +kernel
theorem dX12_across_124 : decode cX12_across 124 = .ok (.iload 9, 2) := by decide +kernel
theorem dX12_across_126 : decode cX12_across 126 = .ok (.isub, 1) := by decide +kernel
theorem dX12_across_127 : decode cX12_across 127 = .ok (.iconst 1, 1) := by decide +kernel
theorem dX12_across_128 : decode cX12_across 128 = .ok (.iadd, 1) := by decide +kernel
theorem dX12_across_129 : decode cX12_across 129 = .ok (.invokestatic 419, 3) := by decide +kernel
theorem dX12_across_132 : decode cX12_across 132 = .ok (.imul, 1) := by decide +kernel
theorem dX12_across_133 : decode cX12_across 133 = .ok (.iadd, 1) := by decide +kernel
theorem dX12_across_134 : decode cX12_across 134 = .ok (.istore 7, 2) := by decide +kernel
theorem dX12_across_136 : decode cX12_across 136 = .ok (.iinc 8 1, 3) := by decide +kernel
theorem dX12_across_139 : decode cX12_across 139 = .ok (.goto (-70), 3) := by decide +kernel
theorem dX12_across_142 : decode cX12_across 142 = .ok (.iload 7, 2) := by decide +kernel
theorem dX12_across_144 : decode cX12_across 144 = .ok (.iload 5, 2) := by decide +kernel
theorem dX12_across_146 : decode cX12_across 146 = .ok (.if_icmp .gt 6, 3) := by decide +kernel
theorem dX12_across_149 : decode cX12_across 149 = .ok (.goto 11, 3) := by decide +kernel
theorem dX12_across_152 : decode cX12_across 152 = .ok (.iload 7, 2) := by decide +kernel
theorem dX12_across_154 : decode cX12_across 154 = .ok (.istore 5, 2) := by decide +kernel
theorem dX12_across_156 : decode cX12_across 156 = .ok (.iload 6, 2) := by decide +kernel
theorem dX12_across_158 : decode cX12_across 158 = .ok (.istore 4, 2) := by decide +kernel
theorem dX12_across_160 : decode cX12_across 160 = .ok (.iinc 6 1, 3) := by decide +kernel
theorem dX12_across_163 : decode cX12_across 163 = .ok (.goto (-113), 3) := by decide +kernel
theorem dX12_across_166 : decode cX12_across 166 = .ok (.iload_n 3, 1) := by decide +kernel
theorem dX12_across_167 : decode cX12_across 167 = .ok (.ifCond .ne 8, 3) := by decide +kernel
theorem dX12_across_170 : decode cX12_across 170 = .ok (.iload 4, 2) := by decide +kernel
theorem dX12_across_172 : decode cX12_across 172 = .ok (.goto 5, 3) := by decide +kernel
theorem dX12_across_175 : decode cX12_across 175 = .ok (.iload 5, 2) := by decide +kernel
theorem dX12_across_177 : decode cX12_across 177 = .ok (.ireturn, 1) := by decide +kernel
theorem dX12_count_0 : decode cX12_count 0 = .ok (.iload_n 1, 1) := by decide +kernel
theorem dX12_count_1 : decode cX12_count 1 = .ok (.tableswitch 88 0 7 #[47, 52, 57, 62, 67, 72, 77, 83], 47) := by decide +kernel
theorem dX12_count_48 : decode cX12_count 48 = .ok (.aload_n 0, 1) := by decide +kernel
theorem dX12_count_49 : decode cX12_count 49 = .ok (.getfield 364, 3) := by decide +kernel
theorem dX12_count_52 : decode cX12_count 52 = .ok (.ireturn, 1) := by decide +kernel
theorem dX12_count_53 : decode cX12_count 53 = .ok (.aload_n 0, 1) := by decide +kernel
theorem dX12_count_54 : decode cX12_count 54 = .ok (.getfield 370, 3) := by decide +kernel
theorem dX12_count_57 : decode cX12_count 57 = .ok (.ireturn, 1) := by decide +kernel
theorem dX12_count_58 : decode cX12_count 58 = .ok (.aload_n 0, 1) := by decide +kernel
theorem dX12_count_59 : decode cX12_count 59 = .ok (.getfield 376, 3) := by decide +kernel
theorem dX12_count_62 : decode cX12_count 62 = .ok (.ireturn, 1) := by decide +kernel
theorem dX12_count_63 : decode cX12_count 63 = .ok (.aload_n 0, 1) := by decide +kernel
theorem dX12_count_64 : decode cX12_count 64 = .ok (.getfield 379, 3) := by decide +kernel
theorem dX12_count_67 : decode cX12_count 67 = .ok (.ireturn, 1) := by decide +kernel
theorem dX12_count_68 : decode cX12_count 68 = .ok (.aload_n 0, 1) := by decide +kernel
theorem dX12_count_69 : decode cX12_count 69 = .ok (.getfield 541, 3) := by decide +kernel
theorem dX12_count_72 : decode cX12_count 72 = .ok (.ireturn, 1) := by decide +kernel
theorem dX12_count_73 : decode cX12_count 73 = .ok (.aload_n 0, 1) := by decide +kernel
theorem dX12_count_74 : decode cX12_count 74 = .ok (.getfield 546, 3) := by decide +kernel
theorem dX12_count_77 : decode cX12_count 77 = .ok (.ireturn, 1) := by decide +kernel
theorem dX12_count_78 : decode cX12_count 78 = .ok (.aload_n 0, 1) := by decide +kernel
theorem dX12_count_79 : decode cX12_count 79 = .ok (.iconst 0, 1) := by decide +kernel
theorem dX12_count_80 : decode cX12_count 80 = .ok (.invokevirtual 477, 3) := by decide +kernel
theorem dX12_count_83 : decode cX12_count 83 = .ok (.ireturn, 1) := by decide +kernel
theorem dX12_count_84 : decode cX12_count 84 = .ok (.aload_n 0, 1) := by decide +kernel
theorem dX12_count_85 : decode cX12_count 85 = .ok (.getfield 345, 3) := by decide +kernel
theorem dX12_count_88 : decode cX12_count 88 = .ok (.ireturn, 1) := by decide +kernel
theorem dX12_count_89 : decode cX12_count 89 = .ok (.iconst (-1), 1) := by decide +kernel
theorem dX12_count_90 : decode cX12_count 90 = .ok (.ireturn, 1) := by decide +kernel
theorem dJ6_numberOfTrailingZeros_0f7a4_0 : decode cJ6_numberOfTrailingZeros_0f7a4 0 = .ok (.iload_n 0, 1) := by decide +kernel
theorem dJ6_numberOfTrailingZeros_0f7a4_1 : decode cJ6_numberOfTrailingZeros_0f7a4 1 = .ok (.iconst (-1), 1) := by decide +kernel
theorem dJ6_numberOfTrailingZeros_0f7a4_2 : decode cJ6_numberOfTrailingZeros_0f7a4 2 = .ok (.ixor, 1) := by decide +kernel
theorem dJ6_numberOfTrailingZeros_0f7a4_3 : decode cJ6_numberOfTrailingZeros_0f7a4 3 = .ok (.iload_n 0, 1) := by decide +kernel
theorem dJ6_numberOfTrailingZeros_0f7a4_4 : decode cJ6_numberOfTrailingZeros_0f7a4 4 = .ok (.iconst 1, 1) := by decide +kernel
theorem dJ6_numberOfTrailingZeros_0f7a4_5 : decode cJ6_numberOfTrailingZeros_0f7a4 5 = .ok (.isub, 1) := by decide +kernel
theorem dJ6_numberOfTrailingZeros_0f7a4_6 : decode cJ6_numberOfTrailingZeros_0f7a4 6 = .ok (.iand, 1) := by decide +kernel
theorem dJ6_numberOfTrailingZeros_0f7a4_7 : decode cJ6_numberOfTrailingZeros_0f7a4 7 = .ok (.istore_n 0, 1) := by decide +kernel
theorem dJ6_numberOfTrailingZeros_0f7a4_8 : decode cJ6_numberOfTrailingZeros_0f7a4 8 = .ok (.iload_n 0, 1) := by decide +kernel
theorem dJ6_numberOfTrailingZeros_0f7a4_9 : decode cJ6_numberOfTrailingZeros_0f7a4 9 = .ok (.ifCond .gt 8, 3) := by decide +kernel
theorem dJ6_numberOfTrailingZeros_0f7a4_12 : decode cJ6_numberOfTrailingZeros_0f7a4 12 = .ok (.iload_n 0, 1) := by decide +kernel
theorem dJ6_numberOfTrailingZeros_0f7a4_13 : decode cJ6_numberOfTrailingZeros_0f7a4 13 = .ok (.bipush 32, 2) := by decide +kernel
theorem dJ6_numberOfTrailingZeros_0f7a4_15 : decode cJ6_numberOfTrailingZeros_0f7a4 15 = .ok (.iand, 1) := by decide +kernel
theorem dJ6_numberOfTrailingZeros_0f7a4_16 : decode cJ6_numberOfTrailingZeros_0f7a4 16 = .ok (.ireturn, 1) := by decide +kernel
theorem dJ6_numberOfTrailingZeros_0f7a4_17 : decode cJ6_numberOfTrailingZeros_0f7a4 17 = .ok (.iconst 1, 1) := by decide +kernel
theorem dJ6_numberOfTrailingZeros_0f7a4_18 : decode cJ6_numberOfTrailingZeros_0f7a4 18 = .ok (.istore_n 1, 1) := by decide +kernel
theorem dJ6_numberOfTrailingZeros_0f7a4_19 : decode cJ6_numberOfTrailingZeros_0f7a4 19 = .ok (.iload_n 0, 1) := by decide +kernel
theorem dJ6_numberOfTrailingZeros_0f7a4_20 : decode cJ6_numberOfTrailingZeros_0f7a4 20 = .ok (.ldc_w 264, 3) := by decide +kernel
theorem dJ6_numberOfTrailingZeros_0f7a4_23 : decode cJ6_numberOfTrailingZeros_0f7a4 23 = .ok (.if_icmp .le 11, 3) := by decide +kernel
theorem dJ6_numberOfTrailingZeros_0f7a4_26 : decode cJ6_numberOfTrailingZeros_0f7a4 26 = .ok (.iinc 1 16, 3) := by decide +kernel
theorem dJ6_numberOfTrailingZeros_0f7a4_29 : decode cJ6_numberOfTrailingZeros_0f7a4 29 = .ok (.iload_n 0, 1) := by decide +kernel
theorem dJ6_numberOfTrailingZeros_0f7a4_30 : decode cJ6_numberOfTrailingZeros_0f7a4 30 = .ok (.bipush 16, 2) := by decide +kernel
theorem dJ6_numberOfTrailingZeros_0f7a4_32 : decode cJ6_numberOfTrailingZeros_0f7a4 32 = .ok (.iushr, 1) := by decide +kernel
theorem dJ6_numberOfTrailingZeros_0f7a4_33 : decode cJ6_numberOfTrailingZeros_0f7a4 33 = .ok (.istore_n 0, 1) := by decide +kernel
theorem dJ6_numberOfTrailingZeros_0f7a4_34 : decode cJ6_numberOfTrailingZeros_0f7a4 34 = .ok (.iload_n 0, 1) := by decide +kernel
theorem dJ6_numberOfTrailingZeros_0f7a4_35 : decode cJ6_numberOfTrailingZeros_0f7a4 35 = .ok (.sipush 256, 3) := by decide +kernel
theorem dJ6_numberOfTrailingZeros_0f7a4_38 : decode cJ6_numberOfTrailingZeros_0f7a4 38 = .ok (.if_icmp .le 11, 3) := by decide +kernel
theorem dJ6_numberOfTrailingZeros_0f7a4_41 : decode cJ6_numberOfTrailingZeros_0f7a4 41 = .ok (.iinc 1 8, 3) := by decide +kernel
theorem dJ6_numberOfTrailingZeros_0f7a4_44 : decode cJ6_numberOfTrailingZeros_0f7a4 44 = .ok (.iload_n 0, 1) := by decide +kernel
theorem dJ6_numberOfTrailingZeros_0f7a4_45 : decode cJ6_numberOfTrailingZeros_0f7a4 45 = .ok (.bipush 8, 2) := by decide +kernel
theorem dJ6_numberOfTrailingZeros_0f7a4_47 : decode cJ6_numberOfTrailingZeros_0f7a4 47 = .ok (.iushr, 1) := by decide +kernel
theorem dJ6_numberOfTrailingZeros_0f7a4_48 : decode cJ6_numberOfTrailingZeros_0f7a4 48 = .ok (.istore_n 0, 1) := by decide +kernel
theorem dJ6_numberOfTrailingZeros_0f7a4_49 : decode cJ6_numberOfTrailingZeros_0f7a4 49 = .ok (.iload_n 0, 1) := by decide +kernel
theorem dJ6_numberOfTrailingZeros_0f7a4_50 : decode cJ6_numberOfTrailingZeros_0f7a4 50 = .ok (.bipush 16, 2) := by decide +kernel
theorem dJ6_numberOfTrailingZeros_0f7a4_52 : decode cJ6_numberOfTrailingZeros_0f7a4 52 = .ok (.if_icmp .le 10, 3) := by decide +kernel
theorem dJ6_numberOfTrailingZeros_0f7a4_55 : decode cJ6_numberOfTrailingZeros_0f7a4 55 = .ok (.iinc 1 4, 3) := by decide +kernel
theorem dJ6_numberOfTrailingZeros_0f7a4_58 : decode cJ6_numberOfTrailingZeros_0f7a4 58 = .ok (.iload_n 0, 1) := by decide +kernel
theorem dJ6_numberOfTrailingZeros_0f7a4_59 : decode cJ6_numberOfTrailingZeros_0f7a4 59 = .ok (.iconst 4, 1) := by decide +kernel
theorem dJ6_numberOfTrailingZeros_0f7a4_60 : decode cJ6_numberOfTrailingZeros_0f7a4 60 = .ok (.iushr, 1) := by decide +kernel
theorem dJ6_numberOfTrailingZeros_0f7a4_61 : decode cJ6_numberOfTrailingZeros_0f7a4 61 = .ok (.istore_n 0, 1) := by decide +kernel
theorem dJ6_numberOfTrailingZeros_0f7a4_62 : decode cJ6_numberOfTrailingZeros_0f7a4 62 = .ok (.iload_n 0, 1) := by decide +kernel
theorem dJ6_numberOfTrailingZeros_0f7a4_63 : decode cJ6_numberOfTrailingZeros_0f7a4 63 = .ok (.iconst 4, 1) := by decide +kernel
theorem dJ6_numberOfTrailingZeros_0f7a4_64 : decode cJ6_numberOfTrailingZeros_0f7a4 64 = .ok (.if_icmp .le 10, 3) := by decide +kernel
theorem dJ6_numberOfTrailingZeros_0f7a4_67 : decode cJ6_numberOfTrailingZeros_0f7a4 67 = .ok (.iinc 1 2, 3) := by decide +kernel
theorem dJ6_numberOfTrailingZeros_0f7a4_70 : decode cJ6_numberOfTrailingZeros_0f7a4 70 = .ok (.iload_n 0, 1) := by decide +kernel
theorem dJ6_numberOfTrailingZeros_0f7a4_71 : decode cJ6_numberOfTrailingZeros_0f7a4 71 = .ok (.iconst 2, 1) := by decide +kernel
theorem dJ6_numberOfTrailingZeros_0f7a4_72 : decode cJ6_numberOfTrailingZeros_0f7a4 72 = .ok (.iushr, 1) := by decide +kernel
theorem dJ6_numberOfTrailingZeros_0f7a4_73 : decode cJ6_numberOfTrailingZeros_0f7a4 73 = .ok (.istore_n 0, 1) := by decide +kernel
theorem dJ6_numberOfTrailingZeros_0f7a4_74 : decode cJ6_numberOfTrailingZeros_0f7a4 74 = .ok (.iload_n 1, 1) := by decide +kernel
theorem dJ6_numberOfTrailingZeros_0f7a4_75 : decode cJ6_numberOfTrailingZeros_0f7a4 75 = .ok (.iload_n 0, 1) := by decide +kernel
theorem dJ6_numberOfTrailingZeros_0f7a4_76 : decode cJ6_numberOfTrailingZeros_0f7a4 76 = .ok (.iconst 1, 1) := by decide +kernel
theorem dJ6_numberOfTrailingZeros_0f7a4_77 : decode cJ6_numberOfTrailingZeros_0f7a4 77 = .ok (.iushr, 1) := by decide +kernel
theorem dJ6_numberOfTrailingZeros_0f7a4_78 : decode cJ6_numberOfTrailingZeros_0f7a4 78 = .ok (.iadd, 1) := by decide +kernel
theorem dJ6_numberOfTrailingZeros_0f7a4_79 : decode cJ6_numberOfTrailingZeros_0f7a4 79 = .ok (.ireturn, 1) := by decide +kernel
theorem dJ6_bitCount_0f7a4_0 : decode cJ6_bitCount_0f7a4 0 = .ok (.iload_n 0, 1) := by decide +kernel
theorem dJ6_bitCount_0f7a4_1 : decode cJ6_bitCount_0f7a4 1 = .ok (.iload_n 0, 1) := by decide +kernel
theorem dJ6_bitCount_0f7a4_2 : decode cJ6_bitCount_0f7a4 2 = .ok (.iconst 1, 1) := by decide +kernel
theorem dJ6_bitCount_0f7a4_3 : decode cJ6_bitCount_0f7a4 3 = .ok (.iushr, 1) := by decide +kernel
theorem dJ6_bitCount_0f7a4_4 : decode cJ6_bitCount_0f7a4 4 = .ok (.ldc_w 265, 3) := by decide +kernel
theorem dJ6_bitCount_0f7a4_7 : decode cJ6_bitCount_0f7a4 7 = .ok (.iand, 1) := by decide +kernel
theorem dJ6_bitCount_0f7a4_8 : decode cJ6_bitCount_0f7a4 8 = .ok (.isub, 1) := by decide +kernel
theorem dJ6_bitCount_0f7a4_9 : decode cJ6_bitCount_0f7a4 9 = .ok (.istore_n 0, 1) := by decide +kernel
theorem dJ6_bitCount_0f7a4_10 : decode cJ6_bitCount_0f7a4 10 = .ok (.iload_n 0, 1) := by decide +kernel
theorem dJ6_bitCount_0f7a4_11 : decode cJ6_bitCount_0f7a4 11 = .ok (.ldc_w 266, 3) := by decide +kernel
theorem dJ6_bitCount_0f7a4_14 : decode cJ6_bitCount_0f7a4 14 = .ok (.iand, 1) := by decide +kernel
theorem dJ6_bitCount_0f7a4_15 : decode cJ6_bitCount_0f7a4 15 = .ok (.iload_n 0, 1) := by decide +kernel
theorem dJ6_bitCount_0f7a4_16 : decode cJ6_bitCount_0f7a4 16 = .ok (.iconst 2, 1) := by decide +kernel
theorem dJ6_bitCount_0f7a4_17 : decode cJ6_bitCount_0f7a4 17 = .ok (.iushr, 1) := by decide +kernel
theorem dJ6_bitCount_0f7a4_18 : decode cJ6_bitCount_0f7a4 18 = .ok (.ldc_w 266, 3) := by decide +kernel
theorem dJ6_bitCount_0f7a4_21 : decode cJ6_bitCount_0f7a4 21 = .ok (.iand, 1) := by decide +kernel
theorem dJ6_bitCount_0f7a4_22 : decode cJ6_bitCount_0f7a4 22 = .ok (.iadd, 1) := by decide +kernel
theorem dJ6_bitCount_0f7a4_23 : decode cJ6_bitCount_0f7a4 23 = .ok (.istore_n 0, 1) := by decide +kernel
theorem dJ6_bitCount_0f7a4_24 : decode cJ6_bitCount_0f7a4 24 = .ok (.iload_n 0, 1) := by decide +kernel
theorem dJ6_bitCount_0f7a4_25 : decode cJ6_bitCount_0f7a4 25 = .ok (.iload_n 0, 1) := by decide +kernel
theorem dJ6_bitCount_0f7a4_26 : decode cJ6_bitCount_0f7a4 26 = .ok (.iconst 4, 1) := by decide +kernel
theorem dJ6_bitCount_0f7a4_27 : decode cJ6_bitCount_0f7a4 27 = .ok (.iushr, 1) := by decide +kernel
theorem dJ6_bitCount_0f7a4_28 : decode cJ6_bitCount_0f7a4 28 = .ok (.iadd, 1) := by decide +kernel
theorem dJ6_bitCount_0f7a4_29 : decode cJ6_bitCount_0f7a4 29 = .ok (.ldc_w 267, 3) := by decide +kernel
theorem dJ6_bitCount_0f7a4_32 : decode cJ6_bitCount_0f7a4 32 = .ok (.iand, 1) := by decide +kernel
theorem dJ6_bitCount_0f7a4_33 : decode cJ6_bitCount_0f7a4 33 = .ok (.istore_n 0, 1) := by decide +kernel
theorem dJ6_bitCount_0f7a4_34 : decode cJ6_bitCount_0f7a4 34 = .ok (.iload_n 0, 1) := by decide +kernel
theorem dJ6_bitCount_0f7a4_35 : decode cJ6_bitCount_0f7a4 35 = .ok (.iload_n 0, 1) := by decide +kernel
theorem dJ6_bitCount_0f7a4_36 : decode cJ6_bitCount_0f7a4 36 = .ok (.bipush 8, 2) := by decide +kernel
theorem dJ6_bitCount_0f7a4_38 : decode cJ6_bitCount_0f7a4 38 = .ok (.iushr, 1) := by decide +kernel
theorem dJ6_bitCount_0f7a4_39 : decode cJ6_bitCount_0f7a4 39 = .ok (.iadd, 1) := by decide +kernel
theorem dJ6_bitCount_0f7a4_40 : decode cJ6_bitCount_0f7a4 40 = .ok (.istore_n 0, 1) := by decide +kernel
theorem dJ6_bitCount_0f7a4_41 : decode cJ6_bitCount_0f7a4 41 = .ok (.iload_n 0, 1) := by decide +kernel
theorem dJ6_bitCount_0f7a4_42 : decode cJ6_bitCount_0f7a4 42 = .ok (.iload_n 0, 1) := by decide +kernel
theorem dJ6_bitCount_0f7a4_43 : decode cJ6_bitCount_0f7a4 43 = .ok (.bipush 16, 2) := by decide +kernel
theorem dJ6_bitCount_0f7a4_45 : decode cJ6_bitCount_0f7a4 45 = .ok (.iushr, 1) := by decide +kernel
theorem dJ6_bitCount_0f7a4_46 : decode cJ6_bitCount_0f7a4 46 = .ok (.iadd, 1) := by decide +kernel
theorem dJ6_bitCount_0f7a4_47 : decode cJ6_bitCount_0f7a4 47 = .ok (.istore_n 0, 1) := by decide +kernel
theorem dJ6_bitCount_0f7a4_48 : decode cJ6_bitCount_0f7a4 48 = .ok (.iload_n 0, 1) := by decide +kernel
theorem dJ6_bitCount_0f7a4_49 : decode cJ6_bitCount_0f7a4 49 = .ok (.bipush 63, 2) := by decide +kernel
theorem dJ6_bitCount_0f7a4_51 : decode cJ6_bitCount_0f7a4 51 = .ok (.iand, 1) := by decide +kernel
theorem dJ6_bitCount_0f7a4_52 : decode cJ6_bitCount_0f7a4 52 = .ok (.ireturn, 1) := by decide +kernel
theorem dJ9_abs_0f7a4_0 : decode cJ9_abs_0f7a4 0 = .ok (.iload_n 0, 1) := by decide +kernel
theorem dJ9_abs_0f7a4_1 : decode cJ9_abs_0f7a4 1 = .ok (.ifCond .ge 8, 3) := by decide +kernel
theorem dJ9_abs_0f7a4_4 : decode cJ9_abs_0f7a4 4 = .ok (.iload_n 0, 1) := by decide +kernel
theorem dJ9_abs_0f7a4_5 : decode cJ9_abs_0f7a4 5 = .ok (.ineg, 1) := by decide +kernel
theorem dJ9_abs_0f7a4_6 : decode cJ9_abs_0f7a4 6 = .ok (.goto 4, 3) := by decide +kernel
theorem dJ9_abs_0f7a4_9 : decode cJ9_abs_0f7a4 9 = .ok (.iload_n 0, 1) := by decide +kernel
theorem dJ9_abs_0f7a4_10 : decode cJ9_abs_0f7a4 10 = .ok (.ireturn, 1) := by decide +kernel
theorem dJ9_max_7cf53_0 : decode cJ9_max_7cf53 0 = .ok (.iload_n 0, 1) := by decide +kernel
theorem dJ9_max_7cf53_1 : decode cJ9_max_7cf53 1 = .ok (.iload_n 1, 1) := by decide +kernel
theorem dJ9_max_7cf53_2 : decode cJ9_max_7cf53 2 = .ok (.if_icmp .lt 7, 3) := by decide +kernel
theorem dJ9_max_7cf53_5 : decode cJ9_max_7cf53 5 = .ok (.iload_n 0, 1) := by decide +kernel
theorem dJ9_max_7cf53_6 : decode cJ9_max_7cf53 6 = .ok (.goto 4, 3) := by decide +kernel
theorem dJ9_max_7cf53_9 : decode cJ9_max_7cf53 9 = .ok (.iload_n 1, 1) := by decide +kernel
theorem dJ9_max_7cf53_10 : decode cJ9_max_7cf53 10 = .ok (.ireturn, 1) := by decide +kernel
theorem dJ9_min_7cf53_0 : decode cJ9_min_7cf53 0 = .ok (.iload_n 0, 1) := by decide +kernel
theorem dJ9_min_7cf53_1 : decode cJ9_min_7cf53 1 = .ok (.iload_n 1, 1) := by decide +kernel
theorem dJ9_min_7cf53_2 : decode cJ9_min_7cf53 2 = .ok (.if_icmp .gt 7, 3) := by decide +kernel
theorem dJ9_min_7cf53_5 : decode cJ9_min_7cf53 5 = .ok (.iload_n 0, 1) := by decide +kernel
theorem dJ9_min_7cf53_6 : decode cJ9_min_7cf53 6 = .ok (.goto 4, 3) := by decide +kernel
theorem dJ9_min_7cf53_9 : decode cJ9_min_7cf53 9 = .ok (.iload_n 1, 1) := by decide +kernel
theorem dJ9_min_7cf53_10 : decode cJ9_min_7cf53 10 = .ok (.ireturn, 1) := by decide +kernel
theorem dJ0_length_8abf5_0 : decode cJ0_length_8abf5 0 = .ok (.aload_n 0, 1) := by decide +kernel
theorem dJ0_length_8abf5_1 : decode cJ0_length_8abf5 1 = .ok (.getfield 9, 3) := by decide +kernel
theorem dJ0_length_8abf5_4 : decode cJ0_length_8abf5 4 = .ok (.arraylength, 1) := by decide +kernel
theorem dJ0_length_8abf5_5 : decode cJ0_length_8abf5 5 = .ok (.aload_n 0, 1) := by decide +kernel
theorem dJ0_length_8abf5_6 : decode cJ0_length_8abf5 6 = .ok (.invokevirtual 335, 3) := by decide +kernel
theorem dJ0_length_8abf5_9 : decode cJ0_length_8abf5 9 = .ok (.ishr, 1) := by decide +kernel
theorem dJ0_length_8abf5_10 : decode cJ0_length_8abf5 10 = .ok (.ireturn, 1) := by decide +kernel
theorem dJ0_charAt_5068e_0 : decode cJ0_charAt_5068e 0 = .ok (.aload_n 0, 1) := by decide +kernel
theorem dJ0_charAt_5068e_1 : decode cJ0_charAt_5068e 1 = .ok (.invokevirtual 492, 3) := by decide +kernel
theorem dJ0_charAt_5068e_4 : decode cJ0_charAt_5068e 4 = .ok (.ifCond .eq 12, 3) := by decide +kernel
theorem dJ0_charAt_5068e_7 : decode cJ0_charAt_5068e 7 = .ok (.aload_n 0, 1) := by decide +kernel
theorem dJ0_charAt_5068e_8 : decode cJ0_charAt_5068e 8 = .ok (.getfield 9, 3) := by decide +kernel
theorem dJ0_charAt_5068e_11 : decode cJ0_charAt_5068e 11 = .ok (.iload_n 1, 1) := by decide +kernel
theorem dJ0_charAt_5068e_12 : decode cJ0_charAt_5068e 12 = .ok (.invokestatic 495, 3) := by decide +kernel
theorem dJ0_charAt_5068e_15 : decode cJ0_charAt_5068e 15 = .ok (.ireturn, 1) := by decide +kernel
theorem dJ0_charAt_5068e_16 : decode cJ0_charAt_5068e 16 = .ok (.aload_n 0, 1) := by decide +kernel
theorem dJ0_charAt_5068e_17 : decode cJ0_charAt_5068e 17 = .ok (.getfield 9, 3) := by decide +kernel
theorem dJ0_charAt_5068e_20 : decode cJ0_charAt_5068e 20 = .ok (.iload_n 1, 1) := by decide +kernel
theorem dJ0_charAt_5068e_21 : decode cJ0_charAt_5068e 21 = .ok (.invokestatic 498, 3) := by decide +kernel
theorem dJ0_charAt_5068e_24 : decode cJ0_charAt_5068e 24 = .ok (.ireturn, 1) := by decide +kernel
theorem dJ0_coder_7d493_0 : decode cJ0_coder_7d493 0 = .ok (.getstatic 38, 3) := by decide +kernel
theorem dJ0_coder_7d493_3 : decode cJ0_coder_7d493 3 = .ok (.ifCond .eq 10, 3) := by decide +kernel
theorem dJ0_coder_7d493_6 : decode cJ0_coder_7d493 6 = .ok (.aload_n 0, 1) := by decide +kernel
theorem dJ0_coder_7d493_7 : decode cJ0_coder_7d493 7 = .ok (.getfield 15, 3) := by decide +kernel
theorem dJ0_coder_7d493_10 : decode cJ0_coder_7d493 10 = .ok (.goto 4, 3) := by decide +kernel
theorem dJ0_coder_7d493_13 : decode cJ0_coder_7d493 13 = .ok (.iconst 1, 1) := by decide +kernel
theorem dJ0_coder_7d493_14 : decode cJ0_coder_7d493 14 = .ok (.ireturn, 1) := by decide +kernel
theorem dJ0_isLatin1_aae02_0 : decode cJ0_isLatin1_aae02 0 = .ok (.getstatic 38, 3) := by decide +kernel
theorem dJ0_isLatin1_aae02_3 : decode cJ0_isLatin1_aae02 3 = .ok (.ifCond .eq 14, 3) := by decide +kernel
theorem dJ0_isLatin1_aae02_6 : decode cJ0_isLatin1_aae02 6 = .ok (.aload_n 0, 1) := by decide +kernel
theorem dJ0_isLatin1_aae02_7 : decode cJ0_isLatin1_aae02 7 = .ok (.getfield 15, 3) := by decide +kernel
theorem dJ0_isLatin1_aae02_10 : decode cJ0_isLatin1_aae02 10 = .ok (.ifCond .ne 7, 3) := by decide +kernel
theorem dJ0_isLatin1_aae02_13 : decode cJ0_isLatin1_aae02 13 = .ok (.iconst 1, 1) := by decide +kernel
theorem dJ0_isLatin1_aae02_14 : decode cJ0_isLatin1_aae02 14 = .ok (.goto 4, 3) := by decide +kernel
theorem dJ0_isLatin1_aae02_17 : decode cJ0_isLatin1_aae02 17 = .ok (.iconst 0, 1) := by decide +kernel
theorem dJ0_isLatin1_aae02_18 : decode cJ0_isLatin1_aae02 18 = .ok (.ireturn, 1) := by decide +kernel
theorem dJ0_checkIndex_df160_0 : decode cJ0_checkIndex_df160 0 = .ok (.iload_n 0, 1) := by decide +kernel
theorem dJ0_checkIndex_df160_1 : decode cJ0_checkIndex_df160 1 = .ok (.iload_n 1, 1) := by decide +kernel
theorem dJ0_checkIndex_df160_2 : decode cJ0_checkIndex_df160 2 = .ok (.getstatic 1053, 3) := by decide +kernel
theorem dJ0_checkIndex_df160_5 : decode cJ0_checkIndex_df160 5 = .ok (.invokestatic 1059, 3) := by decide +kernel
theorem dJ0_checkIndex_df160_8 : decode cJ0_checkIndex_df160 8 = .ok (.pop, 1) := by decide +kernel
theorem dJ0_checkIndex_df160_9 : decode cJ0_checkIndex_df160 9 = .ok (.return_, 1) := by decide +kernel
theorem dJ1_charAt_3b067_0 : decode cJ1_charAt_3b067 0 = .ok (.iload_n 1, 1) := by decide +kernel
theorem dJ1_charAt_3b067_1 : decode cJ1_charAt_3b067 1 = .ok (.aload_n 0, 1) := by decide +kernel
theorem dJ1_charAt_3b067_2 : decode cJ1_charAt_3b067 2 = .ok (.arraylength, 1) := by decide +kernel
theorem dJ1_charAt_3b067_3 : decode cJ1_charAt_3b067 3 = .ok (.invokestatic 9, 3) := by decide +kernel
theorem dJ1_charAt_3b067_6 : decode cJ1_charAt_3b067 6 = .ok (.aload_n 0, 1) := by decide +kernel
theorem dJ1_charAt_3b067_7 : decode cJ1_charAt_3b067 7 = .ok (.iload_n 1, 1) := by decide +kernel
theorem dJ1_charAt_3b067_8 : decode cJ1_charAt_3b067 8 = .ok (.baload, 1) := by decide +kernel
theorem dJ1_charAt_3b067_9 : decode cJ1_charAt_3b067 9 = .ok (.sipush 255, 3) := by decide +kernel
theorem dJ1_charAt_3b067_12 : decode cJ1_charAt_3b067 12 = .ok (.iand, 1) := by decide +kernel
theorem dJ1_charAt_3b067_13 : decode cJ1_charAt_3b067 13 = .ok (.i2c, 1) := by decide +kernel
theorem dJ1_charAt_3b067_14 : decode cJ1_charAt_3b067 14 = .ok (.ireturn, 1) := by decide +kernel
theorem dJ2_getChar_3b067_0 : decode cJ2_getChar_3b067 0 = .ok (.getstatic 44, 3) := by decide +kernel
theorem dJ2_getChar_3b067_3 : decode cJ2_getChar_3b067 3 = .ok (.ifCond .ne 25, 3) := by decide +kernel
theorem dJ2_getChar_3b067_6 : decode cJ2_getChar_3b067 6 = .ok (.iload_n 1, 1) := by decide +kernel
theorem dJ2_getChar_3b067_7 : decode cJ2_getChar_3b067 7 = .ok (.ifCond .lt 11, 3) := by decide +kernel
theorem dJ2_getChar_3b067_10 : decode cJ2_getChar_3b067 10 = .ok (.iload_n 1, 1) := by decide +kernel
theorem dJ2_getChar_3b067_11 : decode cJ2_getChar_3b067 11 = .ok (.aload_n 0, 1) := by decide +kernel
theorem dJ2_getChar_3b067_12 : decode cJ2_getChar_3b067 12 = .ok (.invokestatic 48, 3) := by decide +kernel
theorem dJ2_getChar_3b067_15 : decode cJ2_getChar_3b067 15 = .ok (.if_icmp .lt 13, 3) := by decide +kernel
theorem dJ2_getChar_3b067_18 : decode cJ2_getChar_3b067 18 = .ok (.new 52, 3) := by decide +kernel
theorem dJ2_getChar_3b067_21 : decode cJ2_getChar_3b067 21 = .ok (.dup, 1) := by decide +kernel
theorem dJ2_getChar_3b067_22 : decode cJ2_getChar_3b067 22 = .ok (.ldc 54, 2) := by decide +kernel
theorem dJ2_getChar_3b067_24 : decode cJ2_getChar_3b067 24 = .ok (.invokespecial 56, 3) := by decide +kernel
theorem dJ2_getChar_3b067_27 : decode cJ2_getChar_3b067 27 = .ok (.athrow, 1) := by decide +kernel
theorem dJ2_getChar_3b067_28 : decode cJ2_getChar_3b067 28 = .ok (.iload_n 1, 1) := by decide +kernel
theorem dJ2_getChar_3b067_29 : decode cJ2_getChar_3b067 29 = .ok (.iconst 1, 1) := by decide +kernel
theorem dJ2_getChar_3b067_30 : decode cJ2_getChar_3b067 30 = .ok (.ishl, 1) := by decide +kernel
theorem dJ2_getChar_3b067_31 : decode cJ2_getChar_3b067 31 = .ok (.istore_n 1, 1) := by decide +kernel
theorem dJ2_getChar_3b067_32 : decode cJ2_getChar_3b067 32 = .ok (.aload_n 0, 1) := by decide +kernel
theorem dJ2_getChar_3b067_33 : decode cJ2_getChar_3b067 33 = .ok (.iload_n 1, 1) := by decide +kernel
theorem dJ2_getChar_3b067_34 : decode cJ2_getChar_3b067 34 = .ok (.iinc 1 1, 3) := by decide +kernel
theorem dJ2_getChar_3b067_37 : decode cJ2_getChar_3b067 37 = .ok (.baload, 1) := by decide +kernel
theorem dJ2_getChar_3b067_38 : decode cJ2_getChar_3b067 38 = .ok (.sipush 255, 3) := by decide +kernel
theorem dJ2_getChar_3b067_41 : decode cJ2_getChar_3b067 41 = .ok (.iand, 1) := by decide +kernel
theorem dJ2_getChar_3b067_42 : decode cJ2_getChar_3b067 42 = .ok (.getstatic 59, 3) := by decide +kernel
theorem dJ2_getChar_3b067_45 : decode cJ2_getChar_3b067 45 = .ok (.ishl, 1) := by decide +kernel
theorem dJ2_getChar_3b067_46 : decode cJ2_getChar_3b067 46 = .ok (.aload_n 0, 1) := by decide +kernel
theorem dJ2_getChar_3b067_47 : decode cJ2_getChar_3b067 47 = .ok (.iload_n 1, 1) := by decide +kernel
theorem dJ2_getChar_3b067_48 : decode cJ2_getChar_3b067 48 = .ok (.baload, 1) := by decide +kernel
theorem dJ2_getChar_3b067_49 : decode cJ2_getChar_3b067 49 = .ok (.sipush 255, 3) := by decide +kernel
theorem dJ2_getChar_3b067_52 : decode cJ2_getChar_3b067 52 = .ok (.iand, 1) := by decide +kernel
theorem dJ2_getChar_3b067_53 : decode cJ2_getChar_3b067 53 = .ok (.getstatic 63, 3) := by decide +kernel
theorem dJ2_getChar_3b067_56 : decode cJ2_getChar_3b067 56 = .ok (.ishl, 1) := by decide +kernel
theorem dJ2_getChar_3b067_57 : decode cJ2_getChar_3b067 57 = .ok (.ior, 1) := by decide +kernel
theorem dJ2_getChar_3b067_58 : decode cJ2_getChar_3b067 58 = .ok (.i2c, 1) := by decide +kernel
theorem dJ2_getChar_3b067_59 : decode cJ2_getChar_3b067 59 = .ok (.ireturn, 1) := by decide +kernel
theorem dJ2_length_9d52b_0 : decode cJ2_length_9d52b 0 = .ok (.aload_n 0, 1) := by decide +kernel
theorem dJ2_length_9d52b_1 : decode cJ2_length_9d52b 1 = .ok (.arraylength, 1) := by decide +kernel
theorem dJ2_length_9d52b_2 : decode cJ2_length_9d52b 2 = .ok (.iconst 1, 1) := by decide +kernel
theorem dJ2_length_9d52b_3 : decode cJ2_length_9d52b 3 = .ok (.ishr, 1) := by decide +kernel
theorem dJ2_length_9d52b_4 : decode cJ2_length_9d52b 4 = .ok (.ireturn, 1) := by decide +kernel
theorem dJ2_charAt_3b067_0 : decode cJ2_charAt_3b067 0 = .ok (.iload_n 1, 1) := by decide +kernel
theorem dJ2_charAt_3b067_1 : decode cJ2_charAt_3b067 1 = .ok (.aload_n 0, 1) := by decide +kernel
theorem dJ2_charAt_3b067_2 : decode cJ2_charAt_3b067 2 = .ok (.invokestatic 67, 3) := by decide +kernel
theorem dJ2_charAt_3b067_5 : decode cJ2_charAt_3b067 5 = .ok (.aload_n 0, 1) := by decide +kernel
theorem dJ2_charAt_3b067_6 : decode cJ2_charAt_3b067 6 = .ok (.iload_n 1, 1) := by decide +kernel
theorem dJ2_charAt_3b067_7 : decode cJ2_charAt_3b067 7 = .ok (.invokestatic 71, 3) := by decide +kernel
theorem dJ2_charAt_3b067_10 : decode cJ2_charAt_3b067 10 = .ok (.ireturn, 1) := by decide +kernel
theorem dJ2_checkIndex_2214a_0 : decode cJ2_checkIndex_2214a 0 = .ok (.iload_n 0, 1) := by decide +kernel
theorem dJ2_checkIndex_2214a_1 : decode cJ2_checkIndex_2214a 1 = .ok (.aload_n 1, 1) := by decide +kernel
theorem dJ2_checkIndex_2214a_2 : decode cJ2_checkIndex_2214a 2 = .ok (.invokestatic 48, 3) := by decide +kernel
theorem dJ2_checkIndex_2214a_5 : decode cJ2_checkIndex_2214a 5 = .ok (.invokestatic 414, 3) := by decide +kernel
theorem dJ2_checkIndex_2214a_8 : decode cJ2_checkIndex_2214a 8 = .ok (.return_, 1) := by decide +kernel
theorem dJ7_fill_53178_0 : decode cJ7_fill_53178 0 = .ok (.iconst 0, 1) := by decide +kernel
theorem dJ7_fill_53178_1 : decode cJ7_fill_53178 1 = .ok (.istore_n 2, 1) := by decide +kernel
theorem dJ7_fill_53178_2 : decode cJ7_fill_53178 2 = .ok (.aload_n 0, 1) := by decide +kernel
theorem dJ7_fill_53178_3 : decode cJ7_fill_53178 3 = .ok (.arraylength, 1) := by decide +kernel
theorem dJ7_fill_53178_4 : decode cJ7_fill_53178 4 = .ok (.istore_n 3, 1) := by decide +kernel
theorem dJ7_fill_53178_5 : decode cJ7_fill_53178 5 = .ok (.iload_n 2, 1) := by decide +kernel
theorem dJ7_fill_53178_6 : decode cJ7_fill_53178 6 = .ok (.iload_n 3, 1) := by decide +kernel
theorem dJ7_fill_53178_7 : decode cJ7_fill_53178 7 = .ok (.if_icmp .ge 13, 3) := by decide +kernel
theorem dJ7_fill_53178_10 : decode cJ7_fill_53178 10 = .ok (.aload_n 0, 1) := by decide +kernel
theorem dJ7_fill_53178_11 : decode cJ7_fill_53178 11 = .ok (.iload_n 2, 1) := by decide +kernel
theorem dJ7_fill_53178_12 : decode cJ7_fill_53178 12 = .ok (.iload_n 1, 1) := by decide +kernel
theorem dJ7_fill_53178_13 : decode cJ7_fill_53178 13 = .ok (.iastore, 1) := by decide +kernel
theorem dJ7_fill_53178_14 : decode cJ7_fill_53178 14 = .ok (.iinc 2 1, 3) := by decide +kernel
theorem dJ7_fill_53178_17 : decode cJ7_fill_53178 17 = .ok (.goto (-12), 3) := by decide +kernel
theorem dJ7_fill_53178_20 : decode cJ7_fill_53178 20 = .ok (.return_, 1) := by decide +kernel
theorem dJ3_checkIndex_8e157_0 : decode cJ3_checkIndex_8e157 0 = .ok (.iload_n 0, 1) := by decide +kernel
theorem dJ3_checkIndex_8e157_1 : decode cJ3_checkIndex_8e157 1 = .ok (.ifCond .lt 8, 3) := by decide +kernel
theorem dJ3_checkIndex_8e157_4 : decode cJ3_checkIndex_8e157 4 = .ok (.iload_n 0, 1) := by decide +kernel
theorem dJ3_checkIndex_8e157_5 : decode cJ3_checkIndex_8e157 5 = .ok (.iload_n 1, 1) := by decide +kernel
theorem dJ3_checkIndex_8e157_6 : decode cJ3_checkIndex_8e157 6 = .ok (.if_icmp .lt 10, 3) := by decide +kernel
theorem dJ3_checkIndex_8e157_9 : decode cJ3_checkIndex_8e157 9 = .ok (.aload_n 2, 1) := by decide +kernel
theorem dJ3_checkIndex_8e157_10 : decode cJ3_checkIndex_8e157 10 = .ok (.iload_n 0, 1) := by decide +kernel
theorem dJ3_checkIndex_8e157_11 : decode cJ3_checkIndex_8e157 11 = .ok (.iload_n 1, 1) := by decide +kernel
theorem dJ3_checkIndex_8e157_12 : decode cJ3_checkIndex_8e157 12 = .ok (.invokestatic 95, 3) := by decide +kernel
theorem dJ3_checkIndex_8e157_15 : decode cJ3_checkIndex_8e157 15 = .ok (.athrow, 1) := by decide +kernel
theorem dJ3_checkIndex_8e157_16 : decode cJ3_checkIndex_8e157 16 = .ok (.iload_n 0, 1) := by decide +kernel
theorem dJ3_checkIndex_8e157_17 : decode cJ3_checkIndex_8e157 17 = .ok (.ireturn, 1) := by decide +kernel
theorem dL_law_0 : decode cL_law 0 = .ok (.new 7, 3) := by decide +kernel
theorem dL_law_3 : decode cL_law 3 = .ok (.dup, 1) := by decide +kernel
theorem dL_law_4 : decode cL_law 4 = .ok (.invokespecial 9, 3) := by decide +kernel
theorem dL_law_7 : decode cL_law 7 = .ok (.astore_n 1, 1) := by decide +kernel
theorem dL_law_8 : decode cL_law 8 = .ok (.new 10, 3) := by decide +kernel
theorem dL_law_11 : decode cL_law 11 = .ok (.dup, 1) := by decide +kernel
theorem dL_law_12 : decode cL_law 12 = .ok (.invokespecial 12, 3) := by decide +kernel
theorem dL_law_15 : decode cL_law 15 = .ok (.astore_n 2, 1) := by decide +kernel
theorem dL_law_16 : decode cL_law 16 = .ok (.iconst 0, 1) := by decide +kernel
theorem dL_law_17 : decode cL_law 17 = .ok (.istore_n 3, 1) := by decide +kernel
theorem dL_law_18 : decode cL_law 18 = .ok (.iload_n 3, 1) := by decide +kernel
theorem dL_law_19 : decode cL_law 19 = .ok (.aload_n 0, 1) := by decide +kernel
theorem dL_law_20 : decode cL_law 20 = .ok (.arraylength, 1) := by decide +kernel
theorem dL_law_21 : decode cL_law 21 = .ok (.bipush 7, 2) := by decide +kernel
theorem dL_law_23 : decode cL_law 23 = .ok (.isub, 1) := by decide +kernel
theorem dL_law_24 : decode cL_law 24 = .ok (.if_icmp .gt 1335, 3) := by decide +kernel
theorem dL_law_27 : decode cL_law 27 = .ok (.aload_n 0, 1) := by decide +kernel
theorem dL_law_28 : decode cL_law 28 = .ok (.iload_n 3, 1) := by decide +kernel
theorem dL_law_29 : decode cL_law 29 = .ok (.iaload, 1) := by decide +kernel
theorem dL_law_30 : decode cL_law 30 = .ok (.bipush 63, 2) := by decide +kernel
theorem dL_law_32 : decode cL_law 32 = .ok (.iand, 1) := by decide +kernel
theorem dL_law_33 : decode cL_law 33 = .ok (.tableswitch 1320 0 38 #[171, 234, 257, 270, 293, 316, 349, 372, 395, 428, 461, 474, 497, 540, 563, 586, 599, 622, 645, 678, 691, 704, 737, 770, 823, 846, 899, 942, 975, 1008, 1041, 1074, 1087, 1100, 1123, 1156, 1231, 1254, 1297], 171) := by decide +kernel
theorem dL_law_204 : decode cL_law 204 = .ok (.aload_n 1, 1) := by decide +kernel
theorem dL_law_205 : decode cL_law 205 = .ok (.aload_n 0, 1) := by decide +kernel
theorem dL_law_206 : decode cL_law 206 = .ok (.iload_n 3, 1) := by decide +kernel
theorem dL_law_207 : decode cL_law 207 = .ok (.iconst 1, 1) := by decide +kernel
theorem dL_law_208 : decode cL_law 208 = .ok (.iadd, 1) := by decide +kernel
theorem dL_law_209 : decode cL_law 209 = .ok (.iaload, 1) := by decide +kernel
theorem dL_law_210 : decode cL_law 210 = .ok (.aload_n 0, 1) := by decide +kernel
theorem dL_law_211 : decode cL_law 211 = .ok (.iload_n 3, 1) := by decide +kernel
theorem dL_law_212 : decode cL_law 212 = .ok (.iconst 2, 1) := by decide +kernel
theorem dL_law_213 : decode cL_law 213 = .ok (.iadd, 1) := by decide +kernel
theorem dL_law_214 : decode cL_law 214 = .ok (.iaload, 1) := by decide +kernel
theorem dL_law_215 : decode cL_law 215 = .ok (.aload_n 0, 1) := by decide +kernel
theorem dL_law_216 : decode cL_law 216 = .ok (.iload_n 3, 1) := by decide +kernel
theorem dL_law_217 : decode cL_law 217 = .ok (.iconst 3, 1) := by decide +kernel
theorem dL_law_218 : decode cL_law 218 = .ok (.iadd, 1) := by decide +kernel
theorem dL_law_219 : decode cL_law 219 = .ok (.iaload, 1) := by decide +kernel
theorem dL_law_220 : decode cL_law 220 = .ok (.aload_n 0, 1) := by decide +kernel
theorem dL_law_221 : decode cL_law 221 = .ok (.iload_n 3, 1) := by decide +kernel
theorem dL_law_222 : decode cL_law 222 = .ok (.iconst 4, 1) := by decide +kernel
theorem dL_law_223 : decode cL_law 223 = .ok (.iadd, 1) := by decide +kernel
theorem dL_law_224 : decode cL_law 224 = .ok (.iaload, 1) := by decide +kernel
theorem dL_law_225 : decode cL_law 225 = .ok (.aload_n 0, 1) := by decide +kernel
theorem dL_law_226 : decode cL_law 226 = .ok (.iload_n 3, 1) := by decide +kernel
theorem dL_law_227 : decode cL_law 227 = .ok (.iconst 5, 1) := by decide +kernel
theorem dL_law_228 : decode cL_law 228 = .ok (.iadd, 1) := by decide +kernel
theorem dL_law_229 : decode cL_law 229 = .ok (.iaload, 1) := by decide +kernel
theorem dL_law_230 : decode cL_law 230 = .ok (.invokevirtual 13, 3) := by decide +kernel
theorem dL_law_233 : decode cL_law 233 = .ok (.aload_n 2, 1) := by decide +kernel
theorem dL_law_234 : decode cL_law 234 = .ok (.aload_n 0, 1) := by decide +kernel
theorem dL_law_235 : decode cL_law 235 = .ok (.iload_n 3, 1) := by decide +kernel
theorem dL_law_236 : decode cL_law 236 = .ok (.iconst 1, 1) := by decide +kernel
theorem dL_law_237 : decode cL_law 237 = .ok (.iadd, 1) := by decide +kernel
theorem dL_law_238 : decode cL_law 238 = .ok (.iaload, 1) := by decide +kernel
theorem dL_law_239 : decode cL_law 239 = .ok (.aload_n 0, 1) := by decide +kernel
theorem dL_law_240 : decode cL_law 240 = .ok (.iload_n 3, 1) := by decide +kernel
theorem dL_law_241 : decode cL_law 241 = .ok (.iconst 2, 1) := by decide +kernel
theorem dL_law_242 : decode cL_law 242 = .ok (.iadd, 1) := by decide +kernel
theorem dL_law_243 : decode cL_law 243 = .ok (.iaload, 1) := by decide +kernel
theorem dL_law_244 : decode cL_law 244 = .ok (.aload_n 0, 1) := by decide +kernel
theorem dL_law_245 : decode cL_law 245 = .ok (.iload_n 3, 1) := by decide +kernel
theorem dL_law_246 : decode cL_law 246 = .ok (.iconst 3, 1) := by decide +kernel
theorem dL_law_247 : decode cL_law 247 = .ok (.iadd, 1) := by decide +kernel
theorem dL_law_248 : decode cL_law 248 = .ok (.iaload, 1) := by decide +kernel
theorem dL_law_249 : decode cL_law 249 = .ok (.aload_n 0, 1) := by decide +kernel
theorem dL_law_250 : decode cL_law 250 = .ok (.iload_n 3, 1) := by decide +kernel
theorem dL_law_251 : decode cL_law 251 = .ok (.iconst 4, 1) := by decide +kernel
theorem dL_law_252 : decode cL_law 252 = .ok (.iadd, 1) := by decide +kernel
theorem dL_law_253 : decode cL_law 253 = .ok (.iaload, 1) := by decide +kernel
theorem dL_law_254 : decode cL_law 254 = .ok (.aload_n 0, 1) := by decide +kernel
theorem dL_law_255 : decode cL_law 255 = .ok (.iload_n 3, 1) := by decide +kernel
theorem dL_law_256 : decode cL_law 256 = .ok (.iconst 5, 1) := by decide +kernel
theorem dL_law_257 : decode cL_law 257 = .ok (.iadd, 1) := by decide +kernel
theorem dL_law_258 : decode cL_law 258 = .ok (.iaload, 1) := by decide +kernel
theorem dL_law_259 : decode cL_law 259 = .ok (.invokevirtual 17, 3) := by decide +kernel
theorem dL_law_262 : decode cL_law 262 = .ok (.if_icmp .eq 1091, 3) := by decide +kernel
theorem dL_law_265 : decode cL_law 265 = .ok (.iconst 0, 1) := by decide +kernel
theorem dL_law_266 : decode cL_law 266 = .ok (.ireturn, 1) := by decide +kernel
theorem dL_law_267 : decode cL_law 267 = .ok (.aload_n 1, 1) := by decide +kernel
theorem dL_law_268 : decode cL_law 268 = .ok (.aload_n 0, 1) := by decide +kernel
theorem dL_law_269 : decode cL_law 269 = .ok (.iload_n 3, 1) := by decide +kernel
theorem dL_law_270 : decode cL_law 270 = .ok (.iconst 1, 1) := by decide +kernel
theorem dL_law_271 : decode cL_law 271 = .ok (.iadd, 1) := by decide +kernel
theorem dL_law_272 : decode cL_law 272 = .ok (.iaload, 1) := by decide +kernel
theorem dL_law_273 : decode cL_law 273 = .ok (.invokevirtual 18, 3) := by decide +kernel
theorem dL_law_276 : decode cL_law 276 = .ok (.aload_n 2, 1) := by decide +kernel
theorem dL_law_277 : decode cL_law 277 = .ok (.aload_n 0, 1) := by decide +kernel
theorem dL_law_278 : decode cL_law 278 = .ok (.iload_n 3, 1) := by decide +kernel
theorem dL_law_279 : decode cL_law 279 = .ok (.iconst 1, 1) := by decide +kernel
theorem dL_law_280 : decode cL_law 280 = .ok (.iadd, 1) := by decide +kernel
theorem dL_law_281 : decode cL_law 281 = .ok (.iaload, 1) := by decide +kernel
theorem dL_law_282 : decode cL_law 282 = .ok (.invokevirtual 22, 3) := by decide +kernel
theorem dL_law_285 : decode cL_law 285 = .ok (.if_icmp .eq 1068, 3) := by decide +kernel
theorem dL_law_288 : decode cL_law 288 = .ok (.iconst 0, 1) := by decide +kernel
theorem dL_law_289 : decode cL_law 289 = .ok (.ireturn, 1) := by decide +kernel
theorem dL_law_290 : decode cL_law 290 = .ok (.aload_n 1, 1) := by decide +kernel
theorem dL_law_291 : decode cL_law 291 = .ok (.invokevirtual 23, 3) := by decide +kernel
theorem dL_law_294 : decode cL_law 294 = .ok (.aload_n 2, 1) := by decide +kernel
theorem dL_law_295 : decode cL_law 295 = .ok (.invokevirtual 27, 3) := by decide +kernel
theorem dL_law_298 : decode cL_law 298 = .ok (.if_icmp .eq 1055, 3) := by decide +kernel
theorem dL_law_301 : decode cL_law 301 = .ok (.iconst 0, 1) := by decide +kernel
theorem dL_law_302 : decode cL_law 302 = .ok (.ireturn, 1) := by decide +kernel
theorem dL_law_303 : decode cL_law 303 = .ok (.aload_n 1, 1) := by decide +kernel
theorem dL_law_304 : decode cL_law 304 = .ok (.aload_n 0, 1) := by decide +kernel
theorem dL_law_305 : decode cL_law 305 = .ok (.iload_n 3, 1) := by decide +kernel
theorem dL_law_306 : decode cL_law 306 = .ok (.iconst 1, 1) := by decide +kernel
theorem dL_law_307 : decode cL_law 307 = .ok (.iadd, 1) := by decide +kernel
theorem dL_law_308 : decode cL_law 308 = .ok (.iaload, 1) := by decide +kernel
theorem dL_law_309 : decode cL_law 309 = .ok (.invokevirtual 28, 3) := by decide +kernel
theorem dL_law_312 : decode cL_law 312 = .ok (.aload_n 2, 1) := by decide +kernel
theorem dL_law_313 : decode cL_law 313 = .ok (.aload_n 0, 1) := by decide +kernel
theorem dL_law_314 : decode cL_law 314 = .ok (.iload_n 3, 1) := by decide +kernel
theorem dL_law_315 : decode cL_law 315 = .ok (.iconst 1, 1) := by decide +kernel
theorem dL_law_316 : decode cL_law 316 = .ok (.iadd, 1) := by decide +kernel
theorem dL_law_317 : decode cL_law 317 = .ok (.iaload, 1) := by decide +kernel
theorem dL_law_318 : decode cL_law 318 = .ok (.invokevirtual 31, 3) := by decide +kernel
theorem dL_law_321 : decode cL_law 321 = .ok (.if_icmp .eq 1032, 3) := by decide +kernel
theorem dL_law_324 : decode cL_law 324 = .ok (.iconst 0, 1) := by decide +kernel
theorem dL_law_325 : decode cL_law 325 = .ok (.ireturn, 1) := by decide +kernel
theorem dL_law_326 : decode cL_law 326 = .ok (.aload_n 1, 1) := by decide +kernel
theorem dL_law_327 : decode cL_law 327 = .ok (.aload_n 0, 1) := by decide +kernel
theorem dL_law_328 : decode cL_law 328 = .ok (.iload_n 3, 1) := by decide +kernel
theorem dL_law_329 : decode cL_law 329 = .ok (.iconst 1, 1) := by decide +kernel
theorem dL_law_330 : decode cL_law 330 = .ok (.iadd, 1) := by decide +kernel
theorem dL_law_331 : decode cL_law 331 = .ok (.iaload, 1) := by decide +kernel
theorem dL_law_332 : decode cL_law 332 = .ok (.invokevirtual 32, 3) := by decide +kernel
theorem dL_law_335 : decode cL_law 335 = .ok (.aload_n 2, 1) := by decide +kernel
theorem dL_law_336 : decode cL_law 336 = .ok (.aload_n 0, 1) := by decide +kernel
theorem dL_law_337 : decode cL_law 337 = .ok (.iload_n 3, 1) := by decide +kernel
theorem dL_law_338 : decode cL_law 338 = .ok (.iconst 1, 1) := by decide +kernel
theorem dL_law_339 : decode cL_law 339 = .ok (.iadd, 1) := by decide +kernel
theorem dL_law_340 : decode cL_law 340 = .ok (.iaload, 1) := by decide +kernel
theorem dL_law_341 : decode cL_law 341 = .ok (.invokevirtual 35, 3) := by decide +kernel
theorem dL_law_344 : decode cL_law 344 = .ok (.if_icmp .eq 1009, 3) := by decide +kernel
theorem dL_law_347 : decode cL_law 347 = .ok (.iconst 0, 1) := by decide +kernel
theorem dL_law_348 : decode cL_law 348 = .ok (.ireturn, 1) := by decide +kernel
theorem dL_law_349 : decode cL_law 349 = .ok (.aload_n 1, 1) := by decide +kernel
theorem dL_law_350 : decode cL_law 350 = .ok (.aload_n 0, 1) := by decide +kernel
theorem dL_law_351 : decode cL_law 351 = .ok (.iload_n 3, 1) := by decide +kernel
theorem dL_law_352 : decode cL_law 352 = .ok (.iconst 1, 1) := by decide +kernel
theorem dL_law_353 : decode cL_law 353 = .ok (.iadd, 1) := by decide +kernel
theorem dL_law_354 : decode cL_law 354 = .ok (.iaload, 1) := by decide +kernel
theorem dL_law_355 : decode cL_law 355 = .ok (.aload_n 0, 1) := by decide +kernel
theorem dL_law_356 : decode cL_law 356 = .ok (.iload_n 3, 1) := by decide +kernel
theorem dL_law_357 : decode cL_law 357 = .ok (.iconst 2, 1) := by decide +kernel
theorem dL_law_358 : decode cL_law 358 = .ok (.iadd, 1) := by decide +kernel
theorem dL_law_359 : decode cL_law 359 = .ok (.iaload, 1) := by decide +kernel
theorem dL_law_360 : decode cL_law 360 = .ok (.invokevirtual 36, 3) := by decide +kernel
theorem dL_law_363 : decode cL_law 363 = .ok (.aload_n 2, 1) := by decide +kernel
theorem dL_law_364 : decode cL_law 364 = .ok (.aload_n 0, 1) := by decide +kernel
theorem dL_law_365 : decode cL_law 365 = .ok (.iload_n 3, 1) := by decide +kernel
theorem dL_law_366 : decode cL_law 366 = .ok (.iconst 1, 1) := by decide +kernel
theorem dL_law_367 : decode cL_law 367 = .ok (.iadd, 1) := by decide +kernel
theorem dL_law_368 : decode cL_law 368 = .ok (.iaload, 1) := by decide +kernel
theorem dL_law_369 : decode cL_law 369 = .ok (.aload_n 0, 1) := by decide +kernel
theorem dL_law_370 : decode cL_law 370 = .ok (.iload_n 3, 1) := by decide +kernel
theorem dL_law_371 : decode cL_law 371 = .ok (.iconst 2, 1) := by decide +kernel
theorem dL_law_372 : decode cL_law 372 = .ok (.iadd, 1) := by decide +kernel
theorem dL_law_373 : decode cL_law 373 = .ok (.iaload, 1) := by decide +kernel
theorem dL_law_374 : decode cL_law 374 = .ok (.invokevirtual 40, 3) := by decide +kernel
theorem dL_law_377 : decode cL_law 377 = .ok (.if_icmp .eq 976, 3) := by decide +kernel
theorem dL_law_380 : decode cL_law 380 = .ok (.iconst 0, 1) := by decide +kernel
theorem dL_law_381 : decode cL_law 381 = .ok (.ireturn, 1) := by decide +kernel
theorem dL_law_382 : decode cL_law 382 = .ok (.aload_n 1, 1) := by decide +kernel
theorem dL_law_383 : decode cL_law 383 = .ok (.aload_n 0, 1) := by decide +kernel
theorem dL_law_384 : decode cL_law 384 = .ok (.iload_n 3, 1) := by decide +kernel
theorem dL_law_385 : decode cL_law 385 = .ok (.iconst 1, 1) := by decide +kernel
theorem dL_law_386 : decode cL_law 386 = .ok (.iadd, 1) := by decide +kernel
theorem dL_law_387 : decode cL_law 387 = .ok (.iaload, 1) := by decide +kernel
theorem dL_law_388 : decode cL_law 388 = .ok (.invokevirtual 41, 3) := by decide +kernel
theorem dL_law_391 : decode cL_law 391 = .ok (.aload_n 2, 1) := by decide +kernel
theorem dL_law_392 : decode cL_law 392 = .ok (.aload_n 0, 1) := by decide +kernel
theorem dL_law_393 : decode cL_law 393 = .ok (.iload_n 3, 1) := by decide +kernel
theorem dL_law_394 : decode cL_law 394 = .ok (.iconst 1, 1) := by decide +kernel
theorem dL_law_395 : decode cL_law 395 = .ok (.iadd, 1) := by decide +kernel
theorem dL_law_396 : decode cL_law 396 = .ok (.iaload, 1) := by decide +kernel
theorem dL_law_397 : decode cL_law 397 = .ok (.invokevirtual 44, 3) := by decide +kernel
theorem dL_law_400 : decode cL_law 400 = .ok (.if_icmp .eq 953, 3) := by decide +kernel
theorem dL_law_403 : decode cL_law 403 = .ok (.iconst 0, 1) := by decide +kernel
theorem dL_law_404 : decode cL_law 404 = .ok (.ireturn, 1) := by decide +kernel
theorem dL_law_405 : decode cL_law 405 = .ok (.aload_n 1, 1) := by decide +kernel
theorem dL_law_406 : decode cL_law 406 = .ok (.aload_n 0, 1) := by decide +kernel
theorem dL_law_407 : decode cL_law 407 = .ok (.iload_n 3, 1) := by decide +kernel
theorem dL_law_408 : decode cL_law 408 = .ok (.iconst 1, 1) := by decide +kernel
theorem dL_law_409 : decode cL_law 409 = .ok (.iadd, 1) := by decide +kernel
theorem dL_law_410 : decode cL_law 410 = .ok (.iaload, 1) := by decide +kernel
theorem dL_law_411 : decode cL_law 411 = .ok (.invokevirtual 45, 3) := by decide +kernel
theorem dL_law_414 : decode cL_law 414 = .ok (.aload_n 2, 1) := by decide +kernel
theorem dL_law_415 : decode cL_law 415 = .ok (.aload_n 0, 1) := by decide +kernel
theorem dL_law_416 : decode cL_law 416 = .ok (.iload_n 3, 1) := by decide +kernel
theorem dL_law_417 : decode cL_law 417 = .ok (.iconst 1, 1) := by decide +kernel
theorem dL_law_418 : decode cL_law 418 = .ok (.iadd, 1) := by decide +kernel
theorem dL_law_419 : decode cL_law 419 = .ok (.iaload, 1) := by decide +kernel
theorem dL_law_420 : decode cL_law 420 = .ok (.invokevirtual 48, 3) := by decide +kernel
theorem dL_law_423 : decode cL_law 423 = .ok (.if_icmp .eq 930, 3) := by decide +kernel
theorem dL_law_426 : decode cL_law 426 = .ok (.iconst 0, 1) := by decide +kernel
theorem dL_law_427 : decode cL_law 427 = .ok (.ireturn, 1) := by decide +kernel
theorem dL_law_428 : decode cL_law 428 = .ok (.aload_n 1, 1) := by decide +kernel
theorem dL_law_429 : decode cL_law 429 = .ok (.aload_n 0, 1) := by decide +kernel
theorem dL_law_430 : decode cL_law 430 = .ok (.iload_n 3, 1) := by decide +kernel
theorem dL_law_431 : decode cL_law 431 = .ok (.iconst 1, 1) := by decide +kernel
theorem dL_law_432 : decode cL_law 432 = .ok (.iadd, 1) := by decide +kernel
theorem dL_law_433 : decode cL_law 433 = .ok (.iaload, 1) := by decide +kernel
theorem dL_law_434 : decode cL_law 434 = .ok (.aload_n 0, 1) := by decide +kernel
theorem dL_law_435 : decode cL_law 435 = .ok (.iload_n 3, 1) := by decide +kernel
theorem dL_law_436 : decode cL_law 436 = .ok (.iconst 2, 1) := by decide +kernel
theorem dL_law_437 : decode cL_law 437 = .ok (.iadd, 1) := by decide +kernel
theorem dL_law_438 : decode cL_law 438 = .ok (.iaload, 1) := by decide +kernel
theorem dL_law_439 : decode cL_law 439 = .ok (.invokevirtual 49, 3) := by decide +kernel
theorem dL_law_442 : decode cL_law 442 = .ok (.aload_n 2, 1) := by decide +kernel
theorem dL_law_443 : decode cL_law 443 = .ok (.aload_n 0, 1) := by decide +kernel
theorem dL_law_444 : decode cL_law 444 = .ok (.iload_n 3, 1) := by decide +kernel
theorem dL_law_445 : decode cL_law 445 = .ok (.iconst 1, 1) := by decide +kernel
theorem dL_law_446 : decode cL_law 446 = .ok (.iadd, 1) := by decide +kernel
theorem dL_law_447 : decode cL_law 447 = .ok (.iaload, 1) := by decide +kernel
theorem dL_law_448 : decode cL_law 448 = .ok (.aload_n 0, 1) := by decide +kernel
theorem dL_law_449 : decode cL_law 449 = .ok (.iload_n 3, 1) := by decide +kernel
theorem dL_law_450 : decode cL_law 450 = .ok (.iconst 2, 1) := by decide +kernel
theorem dL_law_451 : decode cL_law 451 = .ok (.iadd, 1) := by decide +kernel
theorem dL_law_452 : decode cL_law 452 = .ok (.iaload, 1) := by decide +kernel
theorem dL_law_453 : decode cL_law 453 = .ok (.invokevirtual 52, 3) := by decide +kernel
theorem dL_law_456 : decode cL_law 456 = .ok (.if_icmp .eq 897, 3) := by decide +kernel
theorem dL_law_459 : decode cL_law 459 = .ok (.iconst 0, 1) := by decide +kernel
theorem dL_law_460 : decode cL_law 460 = .ok (.ireturn, 1) := by decide +kernel
theorem dL_law_461 : decode cL_law 461 = .ok (.aload_n 1, 1) := by decide +kernel
theorem dL_law_462 : decode cL_law 462 = .ok (.aload_n 0, 1) := by decide +kernel
theorem dL_law_463 : decode cL_law 463 = .ok (.iload_n 3, 1) := by decide +kernel
theorem dL_law_464 : decode cL_law 464 = .ok (.iconst 1, 1) := by decide +kernel
theorem dL_law_465 : decode cL_law 465 = .ok (.iadd, 1) := by decide +kernel
theorem dL_law_466 : decode cL_law 466 = .ok (.iaload, 1) := by decide +kernel
theorem dL_law_467 : decode cL_law 467 = .ok (.aload_n 0, 1) := by decide +kernel
theorem dL_law_468 : decode cL_law 468 = .ok (.iload_n 3, 1) := by decide +kernel
theorem dL_law_469 : decode cL_law 469 = .ok (.iconst 2, 1) := by decide +kernel
theorem dL_law_470 : decode cL_law 470 = .ok (.iadd, 1) := by decide +kernel
theorem dL_law_471 : decode cL_law 471 = .ok (.iaload, 1) := by decide +kernel
theorem dL_law_472 : decode cL_law 472 = .ok (.invokevirtual 53, 3) := by decide +kernel
theorem dL_law_475 : decode cL_law 475 = .ok (.aload_n 2, 1) := by decide +kernel
theorem dL_law_476 : decode cL_law 476 = .ok (.aload_n 0, 1) := by decide +kernel
theorem dL_law_477 : decode cL_law 477 = .ok (.iload_n 3, 1) := by decide +kernel
theorem dL_law_478 : decode cL_law 478 = .ok (.iconst 1, 1) := by decide +kernel
theorem dL_law_479 : decode cL_law 479 = .ok (.iadd, 1) := by decide +kernel
theorem dL_law_480 : decode cL_law 480 = .ok (.iaload, 1) := by decide +kernel
theorem dL_law_481 : decode cL_law 481 = .ok (.aload_n 0, 1) := by decide +kernel
theorem dL_law_482 : decode cL_law 482 = .ok (.iload_n 3, 1) := by decide +kernel
theorem dL_law_483 : decode cL_law 483 = .ok (.iconst 2, 1) := by decide +kernel
theorem dL_law_484 : decode cL_law 484 = .ok (.iadd, 1) := by decide +kernel
theorem dL_law_485 : decode cL_law 485 = .ok (.iaload, 1) := by decide +kernel
theorem dL_law_486 : decode cL_law 486 = .ok (.invokevirtual 56, 3) := by decide +kernel
theorem dL_law_489 : decode cL_law 489 = .ok (.if_icmp .eq 864, 3) := by decide +kernel
theorem dL_law_492 : decode cL_law 492 = .ok (.iconst 0, 1) := by decide +kernel
theorem dL_law_493 : decode cL_law 493 = .ok (.ireturn, 1) := by decide +kernel
theorem dL_law_494 : decode cL_law 494 = .ok (.aload_n 1, 1) := by decide +kernel
theorem dL_law_495 : decode cL_law 495 = .ok (.invokevirtual 57, 3) := by decide +kernel
theorem dL_law_498 : decode cL_law 498 = .ok (.aload_n 2, 1) := by decide +kernel
theorem dL_law_499 : decode cL_law 499 = .ok (.invokevirtual 60, 3) := by decide +kernel
theorem dL_law_502 : decode cL_law 502 = .ok (.if_icmp .eq 851, 3) := by decide +kernel
theorem dL_law_505 : decode cL_law 505 = .ok (.iconst 0, 1) := by decide +kernel
theorem dL_law_506 : decode cL_law 506 = .ok (.ireturn, 1) := by decide +kernel
theorem dL_law_507 : decode cL_law 507 = .ok (.aload_n 1, 1) := by decide +kernel
theorem dL_law_508 : decode cL_law 508 = .ok (.aload_n 0, 1) := by decide +kernel
theorem dL_law_509 : decode cL_law 509 = .ok (.iload_n 3, 1) := by decide +kernel
theorem dL_law_510 : decode cL_law 510 = .ok (.iconst 1, 1) := by decide +kernel
theorem dL_law_511 : decode cL_law 511 = .ok (.iadd, 1) := by decide +kernel
theorem dL_law_512 : decode cL_law 512 = .ok (.iaload, 1) := by decide +kernel
theorem dL_law_513 : decode cL_law 513 = .ok (.invokevirtual 61, 3) := by decide +kernel
theorem dL_law_516 : decode cL_law 516 = .ok (.aload_n 2, 1) := by decide +kernel
theorem dL_law_517 : decode cL_law 517 = .ok (.aload_n 0, 1) := by decide +kernel
theorem dL_law_518 : decode cL_law 518 = .ok (.iload_n 3, 1) := by decide +kernel
theorem dL_law_519 : decode cL_law 519 = .ok (.iconst 1, 1) := by decide +kernel
theorem dL_law_520 : decode cL_law 520 = .ok (.iadd, 1) := by decide +kernel
theorem dL_law_521 : decode cL_law 521 = .ok (.iaload, 1) := by decide +kernel
theorem dL_law_522 : decode cL_law 522 = .ok (.invokevirtual 64, 3) := by decide +kernel
theorem dL_law_525 : decode cL_law 525 = .ok (.if_icmp .eq 828, 3) := by decide +kernel
theorem dL_law_528 : decode cL_law 528 = .ok (.iconst 0, 1) := by decide +kernel
theorem dL_law_529 : decode cL_law 529 = .ok (.ireturn, 1) := by decide +kernel
theorem dL_law_530 : decode cL_law 530 = .ok (.aload_n 1, 1) := by decide +kernel
theorem dL_law_531 : decode cL_law 531 = .ok (.aload_n 0, 1) := by decide +kernel
theorem dL_law_532 : decode cL_law 532 = .ok (.iload_n 3, 1) := by decide +kernel
theorem dL_law_533 : decode cL_law 533 = .ok (.iconst 1, 1) := by decide +kernel
theorem dL_law_534 : decode cL_law 534 = .ok (.iadd, 1) := by decide +kernel
theorem dL_law_535 : decode cL_law 535 = .ok (.iaload, 1) := by decide +kernel
theorem dL_law_536 : decode cL_law 536 = .ok (.aload_n 0, 1) := by decide +kernel
theorem dL_law_537 : decode cL_law 537 = .ok (.iload_n 3, 1) := by decide +kernel
theorem dL_law_538 : decode cL_law 538 = .ok (.iconst 2, 1) := by decide +kernel
theorem dL_law_539 : decode cL_law 539 = .ok (.iadd, 1) := by decide +kernel
theorem dL_law_540 : decode cL_law 540 = .ok (.iaload, 1) := by decide +kernel
theorem dL_law_541 : decode cL_law 541 = .ok (.aload_n 0, 1) := by decide +kernel
theorem dL_law_542 : decode cL_law 542 = .ok (.iload_n 3, 1) := by decide +kernel
theorem dL_law_543 : decode cL_law 543 = .ok (.iconst 3, 1) := by decide +kernel
theorem dL_law_544 : decode cL_law 544 = .ok (.iadd, 1) := by decide +kernel
theorem dL_law_545 : decode cL_law 545 = .ok (.iaload, 1) := by decide +kernel
theorem dL_law_546 : decode cL_law 546 = .ok (.invokevirtual 65, 3) := by decide +kernel
theorem dL_law_549 : decode cL_law 549 = .ok (.aload_n 2, 1) := by decide +kernel
theorem dL_law_550 : decode cL_law 550 = .ok (.aload_n 0, 1) := by decide +kernel
theorem dL_law_551 : decode cL_law 551 = .ok (.iload_n 3, 1) := by decide +kernel
theorem dL_law_552 : decode cL_law 552 = .ok (.iconst 1, 1) := by decide +kernel
theorem dL_law_553 : decode cL_law 553 = .ok (.iadd, 1) := by decide +kernel
theorem dL_law_554 : decode cL_law 554 = .ok (.iaload, 1) := by decide +kernel
theorem dL_law_555 : decode cL_law 555 = .ok (.aload_n 0, 1) := by decide +kernel
theorem dL_law_556 : decode cL_law 556 = .ok (.iload_n 3, 1) := by decide +kernel
theorem dL_law_557 : decode cL_law 557 = .ok (.iconst 2, 1) := by decide +kernel
theorem dL_law_558 : decode cL_law 558 = .ok (.iadd, 1) := by decide +kernel
theorem dL_law_559 : decode cL_law 559 = .ok (.iaload, 1) := by decide +kernel
theorem dL_law_560 : decode cL_law 560 = .ok (.aload_n 0, 1) := by decide +kernel
theorem dL_law_561 : decode cL_law 561 = .ok (.iload_n 3, 1) := by decide +kernel
theorem dL_law_562 : decode cL_law 562 = .ok (.iconst 3, 1) := by decide +kernel
theorem dL_law_563 : decode cL_law 563 = .ok (.iadd, 1) := by decide +kernel
theorem dL_law_564 : decode cL_law 564 = .ok (.iaload, 1) := by decide +kernel
theorem dL_law_565 : decode cL_law 565 = .ok (.invokevirtual 69, 3) := by decide +kernel
theorem dL_law_568 : decode cL_law 568 = .ok (.if_icmp .eq 785, 3) := by decide +kernel
theorem dL_law_571 : decode cL_law 571 = .ok (.iconst 0, 1) := by decide +kernel
theorem dL_law_572 : decode cL_law 572 = .ok (.ireturn, 1) := by decide +kernel
theorem dL_law_573 : decode cL_law 573 = .ok (.aload_n 1, 1) := by decide +kernel
theorem dL_law_574 : decode cL_law 574 = .ok (.aload_n 0, 1) := by decide +kernel
theorem dL_law_575 : decode cL_law 575 = .ok (.iload_n 3, 1) := by decide +kernel
theorem dL_law_576 : decode cL_law 576 = .ok (.iconst 1, 1) := by decide +kernel
theorem dL_law_577 : decode cL_law 577 = .ok (.iadd, 1) := by decide +kernel
theorem dL_law_578 : decode cL_law 578 = .ok (.iaload, 1) := by decide +kernel
theorem dL_law_579 : decode cL_law 579 = .ok (.invokevirtual 70, 3) := by decide +kernel
theorem dL_law_582 : decode cL_law 582 = .ok (.aload_n 2, 1) := by decide +kernel
theorem dL_law_583 : decode cL_law 583 = .ok (.aload_n 0, 1) := by decide +kernel
theorem dL_law_584 : decode cL_law 584 = .ok (.iload_n 3, 1) := by decide +kernel
theorem dL_law_585 : decode cL_law 585 = .ok (.iconst 1, 1) := by decide +kernel
theorem dL_law_586 : decode cL_law 586 = .ok (.iadd, 1) := by decide +kernel
theorem dL_law_587 : decode cL_law 587 = .ok (.iaload, 1) := by decide +kernel
theorem dL_law_588 : decode cL_law 588 = .ok (.invokevirtual 73, 3) := by decide +kernel
theorem dL_law_591 : decode cL_law 591 = .ok (.if_icmp .eq 762, 3) := by decide +kernel
theorem dL_law_594 : decode cL_law 594 = .ok (.iconst 0, 1) := by decide +kernel
theorem dL_law_595 : decode cL_law 595 = .ok (.ireturn, 1) := by decide +kernel
theorem dL_law_596 : decode cL_law 596 = .ok (.aload_n 1, 1) := by decide +kernel
theorem dL_law_597 : decode cL_law 597 = .ok (.aload_n 0, 1) := by decide +kernel
theorem dL_law_598 : decode cL_law 598 = .ok (.iload_n 3, 1) := by decide +kernel
theorem dL_law_599 : decode cL_law 599 = .ok (.iconst 1, 1) := by decide +kernel
theorem dL_law_600 : decode cL_law 600 = .ok (.iadd, 1) := by decide +kernel
theorem dL_law_601 : decode cL_law 601 = .ok (.iaload, 1) := by decide +kernel
theorem dL_law_602 : decode cL_law 602 = .ok (.invokevirtual 74, 3) := by decide +kernel
theorem dL_law_605 : decode cL_law 605 = .ok (.aload_n 2, 1) := by decide +kernel
theorem dL_law_606 : decode cL_law 606 = .ok (.aload_n 0, 1) := by decide +kernel
theorem dL_law_607 : decode cL_law 607 = .ok (.iload_n 3, 1) := by decide +kernel
theorem dL_law_608 : decode cL_law 608 = .ok (.iconst 1, 1) := by decide +kernel
theorem dL_law_609 : decode cL_law 609 = .ok (.iadd, 1) := by decide +kernel
theorem dL_law_610 : decode cL_law 610 = .ok (.iaload, 1) := by decide +kernel
theorem dL_law_611 : decode cL_law 611 = .ok (.invokevirtual 77, 3) := by decide +kernel
theorem dL_law_614 : decode cL_law 614 = .ok (.if_icmp .eq 739, 3) := by decide +kernel
theorem dL_law_617 : decode cL_law 617 = .ok (.iconst 0, 1) := by decide +kernel
theorem dL_law_618 : decode cL_law 618 = .ok (.ireturn, 1) := by decide +kernel
theorem dL_law_619 : decode cL_law 619 = .ok (.aload_n 1, 1) := by decide +kernel
theorem dL_law_620 : decode cL_law 620 = .ok (.invokevirtual 78, 3) := by decide +kernel
theorem dL_law_623 : decode cL_law 623 = .ok (.aload_n 2, 1) := by decide +kernel
theorem dL_law_624 : decode cL_law 624 = .ok (.invokevirtual 81, 3) := by decide +kernel
theorem dL_law_627 : decode cL_law 627 = .ok (.if_icmp .eq 726, 3) := by decide +kernel
theorem dL_law_630 : decode cL_law 630 = .ok (.iconst 0, 1) := by decide +kernel
theorem dL_law_631 : decode cL_law 631 = .ok (.ireturn, 1) := by decide +kernel
theorem dL_law_632 : decode cL_law 632 = .ok (.aload_n 1, 1) := by decide +kernel
theorem dL_law_633 : decode cL_law 633 = .ok (.aload_n 0, 1) := by decide +kernel
theorem dL_law_634 : decode cL_law 634 = .ok (.iload_n 3, 1) := by decide +kernel
theorem dL_law_635 : decode cL_law 635 = .ok (.iconst 1, 1) := by decide +kernel
theorem dL_law_636 : decode cL_law 636 = .ok (.iadd, 1) := by decide +kernel
theorem dL_law_637 : decode cL_law 637 = .ok (.iaload, 1) := by decide +kernel
theorem dL_law_638 : decode cL_law 638 = .ok (.invokevirtual 82, 3) := by decide +kernel
theorem dL_law_641 : decode cL_law 641 = .ok (.aload_n 2, 1) := by decide +kernel
theorem dL_law_642 : decode cL_law 642 = .ok (.aload_n 0, 1) := by decide +kernel
theorem dL_law_643 : decode cL_law 643 = .ok (.iload_n 3, 1) := by decide +kernel
theorem dL_law_644 : decode cL_law 644 = .ok (.iconst 1, 1) := by decide +kernel
theorem dL_law_645 : decode cL_law 645 = .ok (.iadd, 1) := by decide +kernel
theorem dL_law_646 : decode cL_law 646 = .ok (.iaload, 1) := by decide +kernel
theorem dL_law_647 : decode cL_law 647 = .ok (.invokevirtual 85, 3) := by decide +kernel
theorem dL_law_650 : decode cL_law 650 = .ok (.if_icmp .eq 703, 3) := by decide +kernel
theorem dL_law_653 : decode cL_law 653 = .ok (.iconst 0, 1) := by decide +kernel
theorem dL_law_654 : decode cL_law 654 = .ok (.ireturn, 1) := by decide +kernel
theorem dL_law_655 : decode cL_law 655 = .ok (.aload_n 1, 1) := by decide +kernel
theorem dL_law_656 : decode cL_law 656 = .ok (.aload_n 0, 1) := by decide +kernel
theorem dL_law_657 : decode cL_law 657 = .ok (.iload_n 3, 1) := by decide +kernel
theorem dL_law_658 : decode cL_law 658 = .ok (.iconst 1, 1) := by decide +kernel
theorem dL_law_659 : decode cL_law 659 = .ok (.iadd, 1) := by decide +kernel
theorem dL_law_660 : decode cL_law 660 = .ok (.iaload, 1) := by decide +kernel
theorem dL_law_661 : decode cL_law 661 = .ok (.invokevirtual 86, 3) := by decide +kernel
theorem dL_law_664 : decode cL_law 664 = .ok (.aload_n 2, 1) := by decide +kernel
theorem dL_law_665 : decode cL_law 665 = .ok (.aload_n 0, 1) := by decide +kernel
theorem dL_law_666 : decode cL_law 666 = .ok (.iload_n 3, 1) := by decide +kernel
theorem dL_law_667 : decode cL_law 667 = .ok (.iconst 1, 1) := by decide +kernel
theorem dL_law_668 : decode cL_law 668 = .ok (.iadd, 1) := by decide +kernel
theorem dL_law_669 : decode cL_law 669 = .ok (.iaload, 1) := by decide +kernel
theorem dL_law_670 : decode cL_law 670 = .ok (.invokevirtual 89, 3) := by decide +kernel
theorem dL_law_673 : decode cL_law 673 = .ok (.if_icmp .eq 680, 3) := by decide +kernel
theorem dL_law_676 : decode cL_law 676 = .ok (.iconst 0, 1) := by decide +kernel
theorem dL_law_677 : decode cL_law 677 = .ok (.ireturn, 1) := by decide +kernel
theorem dL_law_678 : decode cL_law 678 = .ok (.aload_n 1, 1) := by decide +kernel
theorem dL_law_679 : decode cL_law 679 = .ok (.aload_n 0, 1) := by decide +kernel
theorem dL_law_680 : decode cL_law 680 = .ok (.iload_n 3, 1) := by decide +kernel
theorem dL_law_681 : decode cL_law 681 = .ok (.iconst 1, 1) := by decide +kernel
theorem dL_law_682 : decode cL_law 682 = .ok (.iadd, 1) := by decide +kernel
theorem dL_law_683 : decode cL_law 683 = .ok (.iaload, 1) := by decide +kernel
theorem dL_law_684 : decode cL_law 684 = .ok (.aload_n 0, 1) := by decide +kernel
theorem dL_law_685 : decode cL_law 685 = .ok (.iload_n 3, 1) := by decide +kernel
theorem dL_law_686 : decode cL_law 686 = .ok (.iconst 2, 1) := by decide +kernel
theorem dL_law_687 : decode cL_law 687 = .ok (.iadd, 1) := by decide +kernel
theorem dL_law_688 : decode cL_law 688 = .ok (.iaload, 1) := by decide +kernel
theorem dL_law_689 : decode cL_law 689 = .ok (.invokevirtual 90, 3) := by decide +kernel
theorem dL_law_692 : decode cL_law 692 = .ok (.aload_n 2, 1) := by decide +kernel
theorem dL_law_693 : decode cL_law 693 = .ok (.aload_n 0, 1) := by decide +kernel
theorem dL_law_694 : decode cL_law 694 = .ok (.iload_n 3, 1) := by decide +kernel
theorem dL_law_695 : decode cL_law 695 = .ok (.iconst 1, 1) := by decide +kernel
theorem dL_law_696 : decode cL_law 696 = .ok (.iadd, 1) := by decide +kernel
theorem dL_law_697 : decode cL_law 697 = .ok (.iaload, 1) := by decide +kernel
theorem dL_law_698 : decode cL_law 698 = .ok (.aload_n 0, 1) := by decide +kernel
theorem dL_law_699 : decode cL_law 699 = .ok (.iload_n 3, 1) := by decide +kernel
theorem dL_law_700 : decode cL_law 700 = .ok (.iconst 2, 1) := by decide +kernel
theorem dL_law_701 : decode cL_law 701 = .ok (.iadd, 1) := by decide +kernel
theorem dL_law_702 : decode cL_law 702 = .ok (.iaload, 1) := by decide +kernel
theorem dL_law_703 : decode cL_law 703 = .ok (.invokevirtual 93, 3) := by decide +kernel
theorem dL_law_706 : decode cL_law 706 = .ok (.if_icmp .eq 647, 3) := by decide +kernel
theorem dL_law_709 : decode cL_law 709 = .ok (.iconst 0, 1) := by decide +kernel
theorem dL_law_710 : decode cL_law 710 = .ok (.ireturn, 1) := by decide +kernel
theorem dL_law_711 : decode cL_law 711 = .ok (.aload_n 1, 1) := by decide +kernel
theorem dL_law_712 : decode cL_law 712 = .ok (.invokevirtual 94, 3) := by decide +kernel
theorem dL_law_715 : decode cL_law 715 = .ok (.aload_n 2, 1) := by decide +kernel
theorem dL_law_716 : decode cL_law 716 = .ok (.invokevirtual 97, 3) := by decide +kernel
theorem dL_law_719 : decode cL_law 719 = .ok (.if_icmp .eq 634, 3) := by decide +kernel
theorem dL_law_722 : decode cL_law 722 = .ok (.iconst 0, 1) := by decide +kernel
theorem dL_law_723 : decode cL_law 723 = .ok (.ireturn, 1) := by decide +kernel
theorem dL_law_724 : decode cL_law 724 = .ok (.aload_n 1, 1) := by decide +kernel
theorem dL_law_725 : decode cL_law 725 = .ok (.invokevirtual 98, 3) := by decide +kernel
theorem dL_law_728 : decode cL_law 728 = .ok (.aload_n 2, 1) := by decide +kernel
theorem dL_law_729 : decode cL_law 729 = .ok (.invokevirtual 101, 3) := by decide +kernel
theorem dL_law_732 : decode cL_law 732 = .ok (.if_icmp .eq 621, 3) := by decide +kernel
theorem dL_law_735 : decode cL_law 735 = .ok (.iconst 0, 1) := by decide +kernel
theorem dL_law_736 : decode cL_law 736 = .ok (.ireturn, 1) := by decide +kernel
theorem dL_law_737 : decode cL_law 737 = .ok (.aload_n 1, 1) := by decide +kernel
theorem dL_law_738 : decode cL_law 738 = .ok (.aload_n 0, 1) := by decide +kernel
theorem dL_law_739 : decode cL_law 739 = .ok (.iload_n 3, 1) := by decide +kernel
theorem dL_law_740 : decode cL_law 740 = .ok (.iconst 1, 1) := by decide +kernel
theorem dL_law_741 : decode cL_law 741 = .ok (.iadd, 1) := by decide +kernel
theorem dL_law_742 : decode cL_law 742 = .ok (.iaload, 1) := by decide +kernel
theorem dL_law_743 : decode cL_law 743 = .ok (.aload_n 0, 1) := by decide +kernel
theorem dL_law_744 : decode cL_law 744 = .ok (.iload_n 3, 1) := by decide +kernel
theorem dL_law_745 : decode cL_law 745 = .ok (.iconst 2, 1) := by decide +kernel
theorem dL_law_746 : decode cL_law 746 = .ok (.iadd, 1) := by decide +kernel
theorem dL_law_747 : decode cL_law 747 = .ok (.iaload, 1) := by decide +kernel
theorem dL_law_748 : decode cL_law 748 = .ok (.invokevirtual 102, 3) := by decide +kernel
theorem dL_law_751 : decode cL_law 751 = .ok (.aload_n 2, 1) := by decide +kernel
theorem dL_law_752 : decode cL_law 752 = .ok (.aload_n 0, 1) := by decide +kernel
theorem dL_law_753 : decode cL_law 753 = .ok (.iload_n 3, 1) := by decide +kernel
theorem dL_law_754 : decode cL_law 754 = .ok (.iconst 1, 1) := by decide +kernel
theorem dL_law_755 : decode cL_law 755 = .ok (.iadd, 1) := by decide +kernel
theorem dL_law_756 : decode cL_law 756 = .ok (.iaload, 1) := by decide +kernel
theorem dL_law_757 : decode cL_law 757 = .ok (.aload_n 0, 1) := by decide +kernel
theorem dL_law_758 : decode cL_law 758 = .ok (.iload_n 3, 1) := by decide +kernel
theorem dL_law_759 : decode cL_law 759 = .ok (.iconst 2, 1) := by decide +kernel
theorem dL_law_760 : decode cL_law 760 = .ok (.iadd, 1) := by decide +kernel
theorem dL_law_761 : decode cL_law 761 = .ok (.iaload, 1) := by decide +kernel
theorem dL_law_762 : decode cL_law 762 = .ok (.invokevirtual 105, 3) := by decide +kernel
theorem dL_law_765 : decode cL_law 765 = .ok (.if_icmp .eq 588, 3) := by decide +kernel
theorem dL_law_768 : decode cL_law 768 = .ok (.iconst 0, 1) := by decide +kernel
theorem dL_law_769 : decode cL_law 769 = .ok (.ireturn, 1) := by decide +kernel
theorem dL_law_770 : decode cL_law 770 = .ok (.aload_n 1, 1) := by decide +kernel
theorem dL_law_771 : decode cL_law 771 = .ok (.aload_n 0, 1) := by decide +kernel
theorem dL_law_772 : decode cL_law 772 = .ok (.iload_n 3, 1) := by decide +kernel
theorem dL_law_773 : decode cL_law 773 = .ok (.iconst 1, 1) := by decide +kernel
theorem dL_law_774 : decode cL_law 774 = .ok (.iadd, 1) := by decide +kernel
theorem dL_law_775 : decode cL_law 775 = .ok (.iaload, 1) := by decide +kernel
theorem dL_law_776 : decode cL_law 776 = .ok (.aload_n 0, 1) := by decide +kernel
theorem dL_law_777 : decode cL_law 777 = .ok (.iload_n 3, 1) := by decide +kernel
theorem dL_law_778 : decode cL_law 778 = .ok (.iconst 2, 1) := by decide +kernel
theorem dL_law_779 : decode cL_law 779 = .ok (.iadd, 1) := by decide +kernel
theorem dL_law_780 : decode cL_law 780 = .ok (.iaload, 1) := by decide +kernel
theorem dL_law_781 : decode cL_law 781 = .ok (.invokevirtual 106, 3) := by decide +kernel
theorem dL_law_784 : decode cL_law 784 = .ok (.aload_n 2, 1) := by decide +kernel
theorem dL_law_785 : decode cL_law 785 = .ok (.aload_n 0, 1) := by decide +kernel
theorem dL_law_786 : decode cL_law 786 = .ok (.iload_n 3, 1) := by decide +kernel
theorem dL_law_787 : decode cL_law 787 = .ok (.iconst 1, 1) := by decide +kernel
theorem dL_law_788 : decode cL_law 788 = .ok (.iadd, 1) := by decide +kernel
theorem dL_law_789 : decode cL_law 789 = .ok (.iaload, 1) := by decide +kernel
theorem dL_law_790 : decode cL_law 790 = .ok (.aload_n 0, 1) := by decide +kernel
theorem dL_law_791 : decode cL_law 791 = .ok (.iload_n 3, 1) := by decide +kernel
theorem dL_law_792 : decode cL_law 792 = .ok (.iconst 2, 1) := by decide +kernel
theorem dL_law_793 : decode cL_law 793 = .ok (.iadd, 1) := by decide +kernel
theorem dL_law_794 : decode cL_law 794 = .ok (.iaload, 1) := by decide +kernel
theorem dL_law_795 : decode cL_law 795 = .ok (.invokevirtual 109, 3) := by decide +kernel
theorem dL_law_798 : decode cL_law 798 = .ok (.if_icmp .eq 555, 3) := by decide +kernel
theorem dL_law_801 : decode cL_law 801 = .ok (.iconst 0, 1) := by decide +kernel
theorem dL_law_802 : decode cL_law 802 = .ok (.ireturn, 1) := by decide +kernel
theorem dL_law_803 : decode cL_law 803 = .ok (.aload_n 1, 1) := by decide +kernel
theorem dL_law_804 : decode cL_law 804 = .ok (.aload_n 0, 1) := by decide +kernel
theorem dL_law_805 : decode cL_law 805 = .ok (.iload_n 3, 1) := by decide +kernel
theorem dL_law_806 : decode cL_law 806 = .ok (.iconst 1, 1) := by decide +kernel
theorem dL_law_807 : decode cL_law 807 = .ok (.iadd, 1) := by decide +kernel
theorem dL_law_808 : decode cL_law 808 = .ok (.iaload, 1) := by decide +kernel
theorem dL_law_809 : decode cL_law 809 = .ok (.aload_n 0, 1) := by decide +kernel
theorem dL_law_810 : decode cL_law 810 = .ok (.iload_n 3, 1) := by decide +kernel
theorem dL_law_811 : decode cL_law 811 = .ok (.iconst 2, 1) := by decide +kernel
theorem dL_law_812 : decode cL_law 812 = .ok (.iadd, 1) := by decide +kernel
theorem dL_law_813 : decode cL_law 813 = .ok (.iaload, 1) := by decide +kernel
theorem dL_law_814 : decode cL_law 814 = .ok (.aload_n 0, 1) := by decide +kernel
theorem dL_law_815 : decode cL_law 815 = .ok (.iload_n 3, 1) := by decide +kernel
theorem dL_law_816 : decode cL_law 816 = .ok (.iconst 3, 1) := by decide +kernel
theorem dL_law_817 : decode cL_law 817 = .ok (.iadd, 1) := by decide +kernel
theorem dL_law_818 : decode cL_law 818 = .ok (.iaload, 1) := by decide +kernel
theorem dL_law_819 : decode cL_law 819 = .ok (.aload_n 0, 1) := by decide +kernel
theorem dL_law_820 : decode cL_law 820 = .ok (.iload_n 3, 1) := by decide +kernel
theorem dL_law_821 : decode cL_law 821 = .ok (.iconst 4, 1) := by decide +kernel
theorem dL_law_822 : decode cL_law 822 = .ok (.iadd, 1) := by decide +kernel
theorem dL_law_823 : decode cL_law 823 = .ok (.iaload, 1) := by decide +kernel
theorem dL_law_824 : decode cL_law 824 = .ok (.invokevirtual 110, 3) := by decide +kernel
theorem dL_law_827 : decode cL_law 827 = .ok (.aload_n 2, 1) := by decide +kernel
theorem dL_law_828 : decode cL_law 828 = .ok (.aload_n 0, 1) := by decide +kernel
theorem dL_law_829 : decode cL_law 829 = .ok (.iload_n 3, 1) := by decide +kernel
theorem dL_law_830 : decode cL_law 830 = .ok (.iconst 1, 1) := by decide +kernel
theorem dL_law_831 : decode cL_law 831 = .ok (.iadd, 1) := by decide +kernel
theorem dL_law_832 : decode cL_law 832 = .ok (.iaload, 1) := by decide +kernel
theorem dL_law_833 : decode cL_law 833 = .ok (.aload_n 0, 1) := by decide +kernel
theorem dL_law_834 : decode cL_law 834 = .ok (.iload_n 3, 1) := by decide +kernel
theorem dL_law_835 : decode cL_law 835 = .ok (.iconst 2, 1) := by decide +kernel
theorem dL_law_836 : decode cL_law 836 = .ok (.iadd, 1) := by decide +kernel
theorem dL_law_837 : decode cL_law 837 = .ok (.iaload, 1) := by decide +kernel
theorem dL_law_838 : decode cL_law 838 = .ok (.aload_n 0, 1) := by decide +kernel
theorem dL_law_839 : decode cL_law 839 = .ok (.iload_n 3, 1) := by decide +kernel
theorem dL_law_840 : decode cL_law 840 = .ok (.iconst 3, 1) := by decide +kernel
theorem dL_law_841 : decode cL_law 841 = .ok (.iadd, 1) := by decide +kernel
theorem dL_law_842 : decode cL_law 842 = .ok (.iaload, 1) := by decide +kernel
theorem dL_law_843 : decode cL_law 843 = .ok (.aload_n 0, 1) := by decide +kernel
theorem dL_law_844 : decode cL_law 844 = .ok (.iload_n 3, 1) := by decide +kernel
theorem dL_law_845 : decode cL_law 845 = .ok (.iconst 4, 1) := by decide +kernel
theorem dL_law_846 : decode cL_law 846 = .ok (.iadd, 1) := by decide +kernel
theorem dL_law_847 : decode cL_law 847 = .ok (.iaload, 1) := by decide +kernel
theorem dL_law_848 : decode cL_law 848 = .ok (.invokevirtual 114, 3) := by decide +kernel
theorem dL_law_851 : decode cL_law 851 = .ok (.if_icmp .eq 502, 3) := by decide +kernel
theorem dL_law_854 : decode cL_law 854 = .ok (.iconst 0, 1) := by decide +kernel
theorem dL_law_855 : decode cL_law 855 = .ok (.ireturn, 1) := by decide +kernel
theorem dL_law_856 : decode cL_law 856 = .ok (.aload_n 1, 1) := by decide +kernel
theorem dL_law_857 : decode cL_law 857 = .ok (.aload_n 0, 1) := by decide +kernel
theorem dL_law_858 : decode cL_law 858 = .ok (.iload_n 3, 1) := by decide +kernel
theorem dL_law_859 : decode cL_law 859 = .ok (.iconst 1, 1) := by decide +kernel
theorem dL_law_860 : decode cL_law 860 = .ok (.iadd, 1) := by decide +kernel
theorem dL_law_861 : decode cL_law 861 = .ok (.iaload, 1) := by decide +kernel
theorem dL_law_862 : decode cL_law 862 = .ok (.invokevirtual 115, 3) := by decide +kernel
theorem dL_law_865 : decode cL_law 865 = .ok (.aload_n 2, 1) := by decide +kernel
theorem dL_law_866 : decode cL_law 866 = .ok (.aload_n 0, 1) := by decide +kernel
theorem dL_law_867 : decode cL_law 867 = .ok (.iload_n 3, 1) := by decide +kernel
theorem dL_law_868 : decode cL_law 868 = .ok (.iconst 1, 1) := by decide +kernel
theorem dL_law_869 : decode cL_law 869 = .ok (.iadd, 1) := by decide +kernel
theorem dL_law_870 : decode cL_law 870 = .ok (.iaload, 1) := by decide +kernel
theorem dL_law_871 : decode cL_law 871 = .ok (.invokevirtual 118, 3) := by decide +kernel
theorem dL_law_874 : decode cL_law 874 = .ok (.if_icmp .eq 479, 3) := by decide +kernel
theorem dL_law_877 : decode cL_law 877 = .ok (.iconst 0, 1) := by decide +kernel
theorem dL_law_878 : decode cL_law 878 = .ok (.ireturn, 1) := by decide +kernel
theorem dL_law_879 : decode cL_law 879 = .ok (.aload_n 1, 1) := by decide +kernel
theorem dL_law_880 : decode cL_law 880 = .ok (.aload_n 0, 1) := by decide +kernel
theorem dL_law_881 : decode cL_law 881 = .ok (.iload_n 3, 1) := by decide +kernel
theorem dL_law_882 : decode cL_law 882 = .ok (.iconst 1, 1) := by decide +kernel
theorem dL_law_883 : decode cL_law 883 = .ok (.iadd, 1) := by decide +kernel
theorem dL_law_884 : decode cL_law 884 = .ok (.iaload, 1) := by decide +kernel
theorem dL_law_885 : decode cL_law 885 = .ok (.aload_n 0, 1) := by decide +kernel
theorem dL_law_886 : decode cL_law 886 = .ok (.iload_n 3, 1) := by decide +kernel
theorem dL_law_887 : decode cL_law 887 = .ok (.iconst 2, 1) := by decide +kernel
theorem dL_law_888 : decode cL_law 888 = .ok (.iadd, 1) := by decide +kernel
theorem dL_law_889 : decode cL_law 889 = .ok (.iaload, 1) := by decide +kernel
theorem dL_law_890 : decode cL_law 890 = .ok (.aload_n 0, 1) := by decide +kernel
theorem dL_law_891 : decode cL_law 891 = .ok (.iload_n 3, 1) := by decide +kernel
theorem dL_law_892 : decode cL_law 892 = .ok (.iconst 3, 1) := by decide +kernel
theorem dL_law_893 : decode cL_law 893 = .ok (.iadd, 1) := by decide +kernel
theorem dL_law_894 : decode cL_law 894 = .ok (.iaload, 1) := by decide +kernel
theorem dL_law_895 : decode cL_law 895 = .ok (.aload_n 0, 1) := by decide +kernel
theorem dL_law_896 : decode cL_law 896 = .ok (.iload_n 3, 1) := by decide +kernel
theorem dL_law_897 : decode cL_law 897 = .ok (.iconst 4, 1) := by decide +kernel
theorem dL_law_898 : decode cL_law 898 = .ok (.iadd, 1) := by decide +kernel
theorem dL_law_899 : decode cL_law 899 = .ok (.iaload, 1) := by decide +kernel
theorem dL_law_900 : decode cL_law 900 = .ok (.invokevirtual 119, 3) := by decide +kernel
theorem dL_law_903 : decode cL_law 903 = .ok (.aload_n 2, 1) := by decide +kernel
theorem dL_law_904 : decode cL_law 904 = .ok (.aload_n 0, 1) := by decide +kernel
theorem dL_law_905 : decode cL_law 905 = .ok (.iload_n 3, 1) := by decide +kernel
theorem dL_law_906 : decode cL_law 906 = .ok (.iconst 1, 1) := by decide +kernel
theorem dL_law_907 : decode cL_law 907 = .ok (.iadd, 1) := by decide +kernel
theorem dL_law_908 : decode cL_law 908 = .ok (.iaload, 1) := by decide +kernel
theorem dL_law_909 : decode cL_law 909 = .ok (.aload_n 0, 1) := by decide +kernel
theorem dL_law_910 : decode cL_law 910 = .ok (.iload_n 3, 1) := by decide +kernel
theorem dL_law_911 : decode cL_law 911 = .ok (.iconst 2, 1) := by decide +kernel
theorem dL_law_912 : decode cL_law 912 = .ok (.iadd, 1) := by decide +kernel
theorem dL_law_913 : decode cL_law 913 = .ok (.iaload, 1) := by decide +kernel
theorem dL_law_914 : decode cL_law 914 = .ok (.aload_n 0, 1) := by decide +kernel
theorem dL_law_915 : decode cL_law 915 = .ok (.iload_n 3, 1) := by decide +kernel
theorem dL_law_916 : decode cL_law 916 = .ok (.iconst 3, 1) := by decide +kernel
theorem dL_law_917 : decode cL_law 917 = .ok (.iadd, 1) := by decide +kernel
theorem dL_law_918 : decode cL_law 918 = .ok (.iaload, 1) := by decide +kernel
theorem dL_law_919 : decode cL_law 919 = .ok (.aload_n 0, 1) := by decide +kernel
theorem dL_law_920 : decode cL_law 920 = .ok (.iload_n 3, 1) := by decide +kernel
theorem dL_law_921 : decode cL_law 921 = .ok (.iconst 4, 1) := by decide +kernel
theorem dL_law_922 : decode cL_law 922 = .ok (.iadd, 1) := by decide +kernel
theorem dL_law_923 : decode cL_law 923 = .ok (.iaload, 1) := by decide +kernel
theorem dL_law_924 : decode cL_law 924 = .ok (.invokevirtual 122, 3) := by decide +kernel
theorem dL_law_927 : decode cL_law 927 = .ok (.if_icmp .eq 426, 3) := by decide +kernel
theorem dL_law_930 : decode cL_law 930 = .ok (.iconst 0, 1) := by decide +kernel
theorem dL_law_931 : decode cL_law 931 = .ok (.ireturn, 1) := by decide +kernel
theorem dL_law_932 : decode cL_law 932 = .ok (.aload_n 1, 1) := by decide +kernel
theorem dL_law_933 : decode cL_law 933 = .ok (.aload_n 0, 1) := by decide +kernel
theorem dL_law_934 : decode cL_law 934 = .ok (.iload_n 3, 1) := by decide +kernel
theorem dL_law_935 : decode cL_law 935 = .ok (.iconst 1, 1) := by decide +kernel
theorem dL_law_936 : decode cL_law 936 = .ok (.iadd, 1) := by decide +kernel
theorem dL_law_937 : decode cL_law 937 = .ok (.iaload, 1) := by decide +kernel
theorem dL_law_938 : decode cL_law 938 = .ok (.aload_n 0, 1) := by decide +kernel
theorem dL_law_939 : decode cL_law 939 = .ok (.iload_n 3, 1) := by decide +kernel
theorem dL_law_940 : decode cL_law 940 = .ok (.iconst 2, 1) := by decide +kernel
theorem dL_law_941 : decode cL_law 941 = .ok (.iadd, 1) := by decide +kernel
theorem dL_law_942 : decode cL_law 942 = .ok (.iaload, 1) := by decide +kernel
theorem dL_law_943 : decode cL_law 943 = .ok (.aload_n 0, 1) := by decide +kernel
theorem dL_law_944 : decode cL_law 944 = .ok (.iload_n 3, 1) := by decide +kernel
theorem dL_law_945 : decode cL_law 945 = .ok (.iconst 3, 1) := by decide +kernel
theorem dL_law_946 : decode cL_law 946 = .ok (.iadd, 1) := by decide +kernel
theorem dL_law_947 : decode cL_law 947 = .ok (.iaload, 1) := by decide +kernel
theorem dL_law_948 : decode cL_law 948 = .ok (.invokevirtual 123, 3) := by decide +kernel
theorem dL_law_951 : decode cL_law 951 = .ok (.aload_n 2, 1) := by decide +kernel
theorem dL_law_952 : decode cL_law 952 = .ok (.aload_n 0, 1) := by decide +kernel
theorem dL_law_953 : decode cL_law 953 = .ok (.iload_n 3, 1) := by decide +kernel
theorem dL_law_954 : decode cL_law 954 = .ok (.iconst 1, 1) := by decide +kernel
theorem dL_law_955 : decode cL_law 955 = .ok (.iadd, 1) := by decide +kernel
theorem dL_law_956 : decode cL_law 956 = .ok (.iaload, 1) := by decide +kernel
theorem dL_law_957 : decode cL_law 957 = .ok (.aload_n 0, 1) := by decide +kernel
theorem dL_law_958 : decode cL_law 958 = .ok (.iload_n 3, 1) := by decide +kernel
theorem dL_law_959 : decode cL_law 959 = .ok (.iconst 2, 1) := by decide +kernel
theorem dL_law_960 : decode cL_law 960 = .ok (.iadd, 1) := by decide +kernel
theorem dL_law_961 : decode cL_law 961 = .ok (.iaload, 1) := by decide +kernel
theorem dL_law_962 : decode cL_law 962 = .ok (.aload_n 0, 1) := by decide +kernel
theorem dL_law_963 : decode cL_law 963 = .ok (.iload_n 3, 1) := by decide +kernel
theorem dL_law_964 : decode cL_law 964 = .ok (.iconst 3, 1) := by decide +kernel
theorem dL_law_965 : decode cL_law 965 = .ok (.iadd, 1) := by decide +kernel
theorem dL_law_966 : decode cL_law 966 = .ok (.iaload, 1) := by decide +kernel
theorem dL_law_967 : decode cL_law 967 = .ok (.invokevirtual 126, 3) := by decide +kernel
theorem dL_law_970 : decode cL_law 970 = .ok (.if_icmp .eq 383, 3) := by decide +kernel
theorem dL_law_973 : decode cL_law 973 = .ok (.iconst 0, 1) := by decide +kernel
theorem dL_law_974 : decode cL_law 974 = .ok (.ireturn, 1) := by decide +kernel
theorem dL_law_975 : decode cL_law 975 = .ok (.aload_n 1, 1) := by decide +kernel
theorem dL_law_976 : decode cL_law 976 = .ok (.aload_n 0, 1) := by decide +kernel
theorem dL_law_977 : decode cL_law 977 = .ok (.iload_n 3, 1) := by decide +kernel
theorem dL_law_978 : decode cL_law 978 = .ok (.iconst 1, 1) := by decide +kernel
theorem dL_law_979 : decode cL_law 979 = .ok (.iadd, 1) := by decide +kernel
theorem dL_law_980 : decode cL_law 980 = .ok (.iaload, 1) := by decide +kernel
theorem dL_law_981 : decode cL_law 981 = .ok (.aload_n 0, 1) := by decide +kernel
theorem dL_law_982 : decode cL_law 982 = .ok (.iload_n 3, 1) := by decide +kernel
theorem dL_law_983 : decode cL_law 983 = .ok (.iconst 2, 1) := by decide +kernel
theorem dL_law_984 : decode cL_law 984 = .ok (.iadd, 1) := by decide +kernel
theorem dL_law_985 : decode cL_law 985 = .ok (.iaload, 1) := by decide +kernel
theorem dL_law_986 : decode cL_law 986 = .ok (.invokevirtual 127, 3) := by decide +kernel
theorem dL_law_989 : decode cL_law 989 = .ok (.aload_n 2, 1) := by decide +kernel
theorem dL_law_990 : decode cL_law 990 = .ok (.aload_n 0, 1) := by decide +kernel
theorem dL_law_991 : decode cL_law 991 = .ok (.iload_n 3, 1) := by decide +kernel
theorem dL_law_992 : decode cL_law 992 = .ok (.iconst 1, 1) := by decide +kernel
theorem dL_law_993 : decode cL_law 993 = .ok (.iadd, 1) := by decide +kernel
theorem dL_law_994 : decode cL_law 994 = .ok (.iaload, 1) := by decide +kernel
theorem dL_law_995 : decode cL_law 995 = .ok (.aload_n 0, 1) := by decide +kernel
theorem dL_law_996 : decode cL_law 996 = .ok (.iload_n 3, 1) := by decide +kernel
theorem dL_law_997 : decode cL_law 997 = .ok (.iconst 2, 1) := by decide +kernel
theorem dL_law_998 : decode cL_law 998 = .ok (.iadd, 1) := by decide +kernel
theorem dL_law_999 : decode cL_law 999 = .ok (.iaload, 1) := by decide +kernel
theorem dL_law_1000 : decode cL_law 1000 = .ok (.invokevirtual 130, 3) := by decide +kernel
theorem dL_law_1003 : decode cL_law 1003 = .ok (.if_icmp .eq 350, 3) := by decide +kernel
theorem dL_law_1006 : decode cL_law 1006 = .ok (.iconst 0, 1) := by decide +kernel
theorem dL_law_1007 : decode cL_law 1007 = .ok (.ireturn, 1) := by decide +kernel
theorem dL_law_1008 : decode cL_law 1008 = .ok (.aload_n 1, 1) := by decide +kernel
theorem dL_law_1009 : decode cL_law 1009 = .ok (.aload_n 0, 1) := by decide +kernel
theorem dL_law_1010 : decode cL_law 1010 = .ok (.iload_n 3, 1) := by decide +kernel
theorem dL_law_1011 : decode cL_law 1011 = .ok (.iconst 1, 1) := by decide +kernel
theorem dL_law_1012 : decode cL_law 1012 = .ok (.iadd, 1) := by decide +kernel
theorem dL_law_1013 : decode cL_law 1013 = .ok (.iaload, 1) := by decide +kernel
theorem dL_law_1014 : decode cL_law 1014 = .ok (.aload_n 0, 1) := by decide +kernel
theorem dL_law_1015 : decode cL_law 1015 = .ok (.iload_n 3, 1) := by decide +kernel
theorem dL_law_1016 : decode cL_law 1016 = .ok (.iconst 2, 1) := by decide +kernel
theorem dL_law_1017 : decode cL_law 1017 = .ok (.iadd, 1) := by decide +kernel
theorem dL_law_1018 : decode cL_law 1018 = .ok (.iaload, 1) := by decide +kernel
theorem dL_law_1019 : decode cL_law 1019 = .ok (.invokevirtual 131, 3) := by decide +kernel
theorem dL_law_1022 : decode cL_law 1022 = .ok (.aload_n 2, 1) := by decide +kernel
theorem dL_law_1023 : decode cL_law 1023 = .ok (.aload_n 0, 1) := by decide +kernel
theorem dL_law_1024 : decode cL_law 1024 = .ok (.iload_n 3, 1) := by decide +kernel
theorem dL_law_1025 : decode cL_law 1025 = .ok (.iconst 1, 1) := by decide +kernel
theorem dL_law_1026 : decode cL_law 1026 = .ok (.iadd, 1) := by decide +kernel
theorem dL_law_1027 : decode cL_law 1027 = .ok (.iaload, 1) := by decide +kernel
theorem dL_law_1028 : decode cL_law 1028 = .ok (.aload_n 0, 1) := by decide +kernel
theorem dL_law_1029 : decode cL_law 1029 = .ok (.iload_n 3, 1) := by decide +kernel
theorem dL_law_1030 : decode cL_law 1030 = .ok (.iconst 2, 1) := by decide +kernel
theorem dL_law_1031 : decode cL_law 1031 = .ok (.iadd, 1) := by decide +kernel
theorem dL_law_1032 : decode cL_law 1032 = .ok (.iaload, 1) := by decide +kernel
theorem dL_law_1033 : decode cL_law 1033 = .ok (.invokevirtual 134, 3) := by decide +kernel
theorem dL_law_1036 : decode cL_law 1036 = .ok (.if_icmp .eq 317, 3) := by decide +kernel
theorem dL_law_1039 : decode cL_law 1039 = .ok (.iconst 0, 1) := by decide +kernel
theorem dL_law_1040 : decode cL_law 1040 = .ok (.ireturn, 1) := by decide +kernel
theorem dL_law_1041 : decode cL_law 1041 = .ok (.aload_n 1, 1) := by decide +kernel
theorem dL_law_1042 : decode cL_law 1042 = .ok (.aload_n 0, 1) := by decide +kernel
theorem dL_law_1043 : decode cL_law 1043 = .ok (.iload_n 3, 1) := by decide +kernel
theorem dL_law_1044 : decode cL_law 1044 = .ok (.iconst 1, 1) := by decide +kernel
theorem dL_law_1045 : decode cL_law 1045 = .ok (.iadd, 1) := by decide +kernel
theorem dL_law_1046 : decode cL_law 1046 = .ok (.iaload, 1) := by decide +kernel
theorem dL_law_1047 : decode cL_law 1047 = .ok (.aload_n 0, 1) := by decide +kernel
theorem dL_law_1048 : decode cL_law 1048 = .ok (.iload_n 3, 1) := by decide +kernel
theorem dL_law_1049 : decode cL_law 1049 = .ok (.iconst 2, 1) := by decide +kernel
theorem dL_law_1050 : decode cL_law 1050 = .ok (.iadd, 1) := by decide +kernel
theorem dL_law_1051 : decode cL_law 1051 = .ok (.iaload, 1) := by decide +kernel
theorem dL_law_1052 : decode cL_law 1052 = .ok (.invokevirtual 135, 3) := by decide +kernel
theorem dL_law_1055 : decode cL_law 1055 = .ok (.aload_n 2, 1) := by decide +kernel
theorem dL_law_1056 : decode cL_law 1056 = .ok (.aload_n 0, 1) := by decide +kernel
theorem dL_law_1057 : decode cL_law 1057 = .ok (.iload_n 3, 1) := by decide +kernel
theorem dL_law_1058 : decode cL_law 1058 = .ok (.iconst 1, 1) := by decide +kernel
theorem dL_law_1059 : decode cL_law 1059 = .ok (.iadd, 1) := by decide +kernel
theorem dL_law_1060 : decode cL_law 1060 = .ok (.iaload, 1) := by decide +kernel
theorem dL_law_1061 : decode cL_law 1061 = .ok (.aload_n 0, 1) := by decide +kernel
theorem dL_law_1062 : decode cL_law 1062 = .ok (.iload_n 3, 1) := by decide +kernel
theorem dL_law_1063 : decode cL_law 1063 = .ok (.iconst 2, 1) := by decide +kernel
theorem dL_law_1064 : decode cL_law 1064 = .ok (.iadd, 1) := by decide +kernel
theorem dL_law_1065 : decode cL_law 1065 = .ok (.iaload, 1) := by decide +kernel
theorem dL_law_1066 : decode cL_law 1066 = .ok (.invokevirtual 138, 3) := by decide +kernel
theorem dL_law_1069 : decode cL_law 1069 = .ok (.if_icmp .eq 284, 3) := by decide +kernel
theorem dL_law_1072 : decode cL_law 1072 = .ok (.iconst 0, 1) := by decide +kernel
theorem dL_law_1073 : decode cL_law 1073 = .ok (.ireturn, 1) := by decide +kernel
theorem dL_law_1074 : decode cL_law 1074 = .ok (.aload_n 1, 1) := by decide +kernel
theorem dL_law_1075 : decode cL_law 1075 = .ok (.aload_n 0, 1) := by decide +kernel
theorem dL_law_1076 : decode cL_law 1076 = .ok (.iload_n 3, 1) := by decide +kernel
theorem dL_law_1077 : decode cL_law 1077 = .ok (.iconst 1, 1) := by decide +kernel
theorem dL_law_1078 : decode cL_law 1078 = .ok (.iadd, 1) := by decide +kernel
theorem dL_law_1079 : decode cL_law 1079 = .ok (.iaload, 1) := by decide +kernel
theorem dL_law_1080 : decode cL_law 1080 = .ok (.aload_n 0, 1) := by decide +kernel
theorem dL_law_1081 : decode cL_law 1081 = .ok (.iload_n 3, 1) := by decide +kernel
theorem dL_law_1082 : decode cL_law 1082 = .ok (.iconst 2, 1) := by decide +kernel
theorem dL_law_1083 : decode cL_law 1083 = .ok (.iadd, 1) := by decide +kernel
theorem dL_law_1084 : decode cL_law 1084 = .ok (.iaload, 1) := by decide +kernel
theorem dL_law_1085 : decode cL_law 1085 = .ok (.invokevirtual 139, 3) := by decide +kernel
theorem dL_law_1088 : decode cL_law 1088 = .ok (.aload_n 2, 1) := by decide +kernel
theorem dL_law_1089 : decode cL_law 1089 = .ok (.aload_n 0, 1) := by decide +kernel
theorem dL_law_1090 : decode cL_law 1090 = .ok (.iload_n 3, 1) := by decide +kernel
theorem dL_law_1091 : decode cL_law 1091 = .ok (.iconst 1, 1) := by decide +kernel
theorem dL_law_1092 : decode cL_law 1092 = .ok (.iadd, 1) := by decide +kernel
theorem dL_law_1093 : decode cL_law 1093 = .ok (.iaload, 1) := by decide +kernel
theorem dL_law_1094 : decode cL_law 1094 = .ok (.aload_n 0, 1) := by decide +kernel
theorem dL_law_1095 : decode cL_law 1095 = .ok (.iload_n 3, 1) := by decide +kernel
theorem dL_law_1096 : decode cL_law 1096 = .ok (.iconst 2, 1) := by decide +kernel
theorem dL_law_1097 : decode cL_law 1097 = .ok (.iadd, 1) := by decide +kernel
theorem dL_law_1098 : decode cL_law 1098 = .ok (.iaload, 1) := by decide +kernel
theorem dL_law_1099 : decode cL_law 1099 = .ok (.invokevirtual 142, 3) := by decide +kernel
theorem dL_law_1102 : decode cL_law 1102 = .ok (.if_icmp .eq 251, 3) := by decide +kernel
theorem dL_law_1105 : decode cL_law 1105 = .ok (.iconst 0, 1) := by decide +kernel
theorem dL_law_1106 : decode cL_law 1106 = .ok (.ireturn, 1) := by decide +kernel
theorem dL_law_1107 : decode cL_law 1107 = .ok (.aload_n 1, 1) := by decide +kernel
theorem dL_law_1108 : decode cL_law 1108 = .ok (.invokevirtual 143, 3) := by decide +kernel
theorem dL_law_1111 : decode cL_law 1111 = .ok (.aload_n 2, 1) := by decide +kernel
theorem dL_law_1112 : decode cL_law 1112 = .ok (.invokevirtual 146, 3) := by decide +kernel
theorem dL_law_1115 : decode cL_law 1115 = .ok (.if_icmp .eq 238, 3) := by decide +kernel
theorem dL_law_1118 : decode cL_law 1118 = .ok (.iconst 0, 1) := by decide +kernel
theorem dL_law_1119 : decode cL_law 1119 = .ok (.ireturn, 1) := by decide +kernel
theorem dL_law_1120 : decode cL_law 1120 = .ok (.aload_n 1, 1) := by decide +kernel
theorem dL_law_1121 : decode cL_law 1121 = .ok (.invokevirtual 147, 3) := by decide +kernel
theorem dL_law_1124 : decode cL_law 1124 = .ok (.aload_n 2, 1) := by decide +kernel
theorem dL_law_1125 : decode cL_law 1125 = .ok (.invokevirtual 150, 3) := by decide +kernel
theorem dL_law_1128 : decode cL_law 1128 = .ok (.if_icmp .eq 225, 3) := by decide +kernel
theorem dL_law_1131 : decode cL_law 1131 = .ok (.iconst 0, 1) := by decide +kernel
theorem dL_law_1132 : decode cL_law 1132 = .ok (.ireturn, 1) := by decide +kernel
theorem dL_law_1133 : decode cL_law 1133 = .ok (.aload_n 1, 1) := by decide +kernel
theorem dL_law_1134 : decode cL_law 1134 = .ok (.aload_n 0, 1) := by decide +kernel
theorem dL_law_1135 : decode cL_law 1135 = .ok (.iload_n 3, 1) := by decide +kernel
theorem dL_law_1136 : decode cL_law 1136 = .ok (.iconst 1, 1) := by decide +kernel
theorem dL_law_1137 : decode cL_law 1137 = .ok (.iadd, 1) := by decide +kernel
theorem dL_law_1138 : decode cL_law 1138 = .ok (.iaload, 1) := by decide +kernel
theorem dL_law_1139 : decode cL_law 1139 = .ok (.invokevirtual 151, 3) := by decide +kernel
theorem dL_law_1142 : decode cL_law 1142 = .ok (.aload_n 2, 1) := by decide +kernel
theorem dL_law_1143 : decode cL_law 1143 = .ok (.aload_n 0, 1) := by decide +kernel
theorem dL_law_1144 : decode cL_law 1144 = .ok (.iload_n 3, 1) := by decide +kernel
theorem dL_law_1145 : decode cL_law 1145 = .ok (.iconst 1, 1) := by decide +kernel
theorem dL_law_1146 : decode cL_law 1146 = .ok (.iadd, 1) := by decide +kernel
theorem dL_law_1147 : decode cL_law 1147 = .ok (.iaload, 1) := by decide +kernel
theorem dL_law_1148 : decode cL_law 1148 = .ok (.invokevirtual 154, 3) := by decide +kernel
theorem dL_law_1151 : decode cL_law 1151 = .ok (.if_icmp .eq 202, 3) := by decide +kernel
theorem dL_law_1154 : decode cL_law 1154 = .ok (.iconst 0, 1) := by decide +kernel
theorem dL_law_1155 : decode cL_law 1155 = .ok (.ireturn, 1) := by decide +kernel
theorem dL_law_1156 : decode cL_law 1156 = .ok (.aload_n 1, 1) := by decide +kernel
theorem dL_law_1157 : decode cL_law 1157 = .ok (.aload_n 0, 1) := by decide +kernel
theorem dL_law_1158 : decode cL_law 1158 = .ok (.iload_n 3, 1) := by decide +kernel
theorem dL_law_1159 : decode cL_law 1159 = .ok (.iconst 1, 1) := by decide +kernel
theorem dL_law_1160 : decode cL_law 1160 = .ok (.iadd, 1) := by decide +kernel
theorem dL_law_1161 : decode cL_law 1161 = .ok (.iaload, 1) := by decide +kernel
theorem dL_law_1162 : decode cL_law 1162 = .ok (.aload_n 0, 1) := by decide +kernel
theorem dL_law_1163 : decode cL_law 1163 = .ok (.iload_n 3, 1) := by decide +kernel
theorem dL_law_1164 : decode cL_law 1164 = .ok (.iconst 2, 1) := by decide +kernel
theorem dL_law_1165 : decode cL_law 1165 = .ok (.iadd, 1) := by decide +kernel
theorem dL_law_1166 : decode cL_law 1166 = .ok (.iaload, 1) := by decide +kernel
theorem dL_law_1167 : decode cL_law 1167 = .ok (.invokevirtual 155, 3) := by decide +kernel
theorem dL_law_1170 : decode cL_law 1170 = .ok (.aload_n 2, 1) := by decide +kernel
theorem dL_law_1171 : decode cL_law 1171 = .ok (.aload_n 0, 1) := by decide +kernel
theorem dL_law_1172 : decode cL_law 1172 = .ok (.iload_n 3, 1) := by decide +kernel
theorem dL_law_1173 : decode cL_law 1173 = .ok (.iconst 1, 1) := by decide +kernel
theorem dL_law_1174 : decode cL_law 1174 = .ok (.iadd, 1) := by decide +kernel
theorem dL_law_1175 : decode cL_law 1175 = .ok (.iaload, 1) := by decide +kernel
theorem dL_law_1176 : decode cL_law 1176 = .ok (.aload_n 0, 1) := by decide +kernel
theorem dL_law_1177 : decode cL_law 1177 = .ok (.iload_n 3, 1) := by decide +kernel
theorem dL_law_1178 : decode cL_law 1178 = .ok (.iconst 2, 1) := by decide +kernel
theorem dL_law_1179 : decode cL_law 1179 = .ok (.iadd, 1) := by decide +kernel
theorem dL_law_1180 : decode cL_law 1180 = .ok (.iaload, 1) := by decide +kernel
theorem dL_law_1181 : decode cL_law 1181 = .ok (.invokevirtual 158, 3) := by decide +kernel
theorem dL_law_1184 : decode cL_law 1184 = .ok (.if_icmp .eq 169, 3) := by decide +kernel
theorem dL_law_1187 : decode cL_law 1187 = .ok (.iconst 0, 1) := by decide +kernel
theorem dL_law_1188 : decode cL_law 1188 = .ok (.ireturn, 1) := by decide +kernel
theorem dL_law_1189 : decode cL_law 1189 = .ok (.aload_n 1, 1) := by decide +kernel
theorem dL_law_1190 : decode cL_law 1190 = .ok (.aload_n 0, 1) := by decide +kernel
theorem dL_law_1191 : decode cL_law 1191 = .ok (.iload_n 3, 1) := by decide +kernel
theorem dL_law_1192 : decode cL_law 1192 = .ok (.iconst 1, 1) := by decide +kernel
theorem dL_law_1193 : decode cL_law 1193 = .ok (.iadd, 1) := by decide +kernel
theorem dL_law_1194 : decode cL_law 1194 = .ok (.iaload, 1) := by decide +kernel
theorem dL_law_1195 : decode cL_law 1195 = .ok (.aload_n 0, 1) := by decide +kernel
theorem dL_law_1196 : decode cL_law 1196 = .ok (.iload_n 3, 1) := by decide +kernel
theorem dL_law_1197 : decode cL_law 1197 = .ok (.iconst 2, 1) := by decide +kernel
theorem dL_law_1198 : decode cL_law 1198 = .ok (.iadd, 1) := by decide +kernel
theorem dL_law_1199 : decode cL_law 1199 = .ok (.iaload, 1) := by decide +kernel
theorem dL_law_1200 : decode cL_law 1200 = .ok (.aload_n 0, 1) := by decide +kernel
theorem dL_law_1201 : decode cL_law 1201 = .ok (.iload_n 3, 1) := by decide +kernel
theorem dL_law_1202 : decode cL_law 1202 = .ok (.iconst 3, 1) := by decide +kernel
theorem dL_law_1203 : decode cL_law 1203 = .ok (.iadd, 1) := by decide +kernel
theorem dL_law_1204 : decode cL_law 1204 = .ok (.iaload, 1) := by decide +kernel
theorem dL_law_1205 : decode cL_law 1205 = .ok (.aload_n 0, 1) := by decide +kernel
theorem dL_law_1206 : decode cL_law 1206 = .ok (.iload_n 3, 1) := by decide +kernel
theorem dL_law_1207 : decode cL_law 1207 = .ok (.iconst 4, 1) := by decide +kernel
theorem dL_law_1208 : decode cL_law 1208 = .ok (.iadd, 1) := by decide +kernel
theorem dL_law_1209 : decode cL_law 1209 = .ok (.iaload, 1) := by decide +kernel
theorem dL_law_1210 : decode cL_law 1210 = .ok (.aload_n 0, 1) := by decide +kernel
theorem dL_law_1211 : decode cL_law 1211 = .ok (.iload_n 3, 1) := by decide +kernel
theorem dL_law_1212 : decode cL_law 1212 = .ok (.iconst 5, 1) := by decide +kernel
theorem dL_law_1213 : decode cL_law 1213 = .ok (.iadd, 1) := by decide +kernel
theorem dL_law_1214 : decode cL_law 1214 = .ok (.iaload, 1) := by decide +kernel
theorem dL_law_1215 : decode cL_law 1215 = .ok (.aload_n 0, 1) := by decide +kernel
theorem dL_law_1216 : decode cL_law 1216 = .ok (.iload_n 3, 1) := by decide +kernel
theorem dL_law_1217 : decode cL_law 1217 = .ok (.bipush 6, 2) := by decide +kernel
theorem dL_law_1219 : decode cL_law 1219 = .ok (.iadd, 1) := by decide +kernel
theorem dL_law_1220 : decode cL_law 1220 = .ok (.iaload, 1) := by decide +kernel
theorem dL_law_1221 : decode cL_law 1221 = .ok (.invokevirtual 159, 3) := by decide +kernel
theorem dL_law_1224 : decode cL_law 1224 = .ok (.aload_n 2, 1) := by decide +kernel
theorem dL_law_1225 : decode cL_law 1225 = .ok (.aload_n 0, 1) := by decide +kernel
theorem dL_law_1226 : decode cL_law 1226 = .ok (.iload_n 3, 1) := by decide +kernel
theorem dL_law_1227 : decode cL_law 1227 = .ok (.iconst 1, 1) := by decide +kernel
theorem dL_law_1228 : decode cL_law 1228 = .ok (.iadd, 1) := by decide +kernel
theorem dL_law_1229 : decode cL_law 1229 = .ok (.iaload, 1) := by decide +kernel
theorem dL_law_1230 : decode cL_law 1230 = .ok (.aload_n 0, 1) := by decide +kernel
theorem dL_law_1231 : decode cL_law 1231 = .ok (.iload_n 3, 1) := by decide +kernel
theorem dL_law_1232 : decode cL_law 1232 = .ok (.iconst 2, 1) := by decide +kernel
theorem dL_law_1233 : decode cL_law 1233 = .ok (.iadd, 1) := by decide +kernel
theorem dL_law_1234 : decode cL_law 1234 = .ok (.iaload, 1) := by decide +kernel
theorem dL_law_1235 : decode cL_law 1235 = .ok (.aload_n 0, 1) := by decide +kernel
theorem dL_law_1236 : decode cL_law 1236 = .ok (.iload_n 3, 1) := by decide +kernel
theorem dL_law_1237 : decode cL_law 1237 = .ok (.iconst 3, 1) := by decide +kernel
theorem dL_law_1238 : decode cL_law 1238 = .ok (.iadd, 1) := by decide +kernel
theorem dL_law_1239 : decode cL_law 1239 = .ok (.iaload, 1) := by decide +kernel
theorem dL_law_1240 : decode cL_law 1240 = .ok (.aload_n 0, 1) := by decide +kernel
theorem dL_law_1241 : decode cL_law 1241 = .ok (.iload_n 3, 1) := by decide +kernel
theorem dL_law_1242 : decode cL_law 1242 = .ok (.iconst 4, 1) := by decide +kernel
theorem dL_law_1243 : decode cL_law 1243 = .ok (.iadd, 1) := by decide +kernel
theorem dL_law_1244 : decode cL_law 1244 = .ok (.iaload, 1) := by decide +kernel
theorem dL_law_1245 : decode cL_law 1245 = .ok (.aload_n 0, 1) := by decide +kernel
theorem dL_law_1246 : decode cL_law 1246 = .ok (.iload_n 3, 1) := by decide +kernel
theorem dL_law_1247 : decode cL_law 1247 = .ok (.iconst 5, 1) := by decide +kernel
theorem dL_law_1248 : decode cL_law 1248 = .ok (.iadd, 1) := by decide +kernel
theorem dL_law_1249 : decode cL_law 1249 = .ok (.iaload, 1) := by decide +kernel
theorem dL_law_1250 : decode cL_law 1250 = .ok (.aload_n 0, 1) := by decide +kernel
theorem dL_law_1251 : decode cL_law 1251 = .ok (.iload_n 3, 1) := by decide +kernel
theorem dL_law_1252 : decode cL_law 1252 = .ok (.bipush 6, 2) := by decide +kernel
theorem dL_law_1254 : decode cL_law 1254 = .ok (.iadd, 1) := by decide +kernel
theorem dL_law_1255 : decode cL_law 1255 = .ok (.iaload, 1) := by decide +kernel
theorem dL_law_1256 : decode cL_law 1256 = .ok (.invokevirtual 163, 3) := by decide +kernel
theorem dL_law_1259 : decode cL_law 1259 = .ok (.if_icmp .eq 94, 3) := by decide +kernel
theorem dL_law_1262 : decode cL_law 1262 = .ok (.iconst 0, 1) := by decide +kernel
theorem dL_law_1263 : decode cL_law 1263 = .ok (.ireturn, 1) := by decide +kernel
theorem dL_law_1264 : decode cL_law 1264 = .ok (.aload_n 1, 1) := by decide +kernel
theorem dL_law_1265 : decode cL_law 1265 = .ok (.aload_n 0, 1) := by decide +kernel
theorem dL_law_1266 : decode cL_law 1266 = .ok (.iload_n 3, 1) := by decide +kernel
theorem dL_law_1267 : decode cL_law 1267 = .ok (.iconst 1, 1) := by decide +kernel
theorem dL_law_1268 : decode cL_law 1268 = .ok (.iadd, 1) := by decide +kernel
theorem dL_law_1269 : decode cL_law 1269 = .ok (.iaload, 1) := by decide +kernel
theorem dL_law_1270 : decode cL_law 1270 = .ok (.invokevirtual 164, 3) := by decide +kernel
theorem dL_law_1273 : decode cL_law 1273 = .ok (.aload_n 2, 1) := by decide +kernel
theorem dL_law_1274 : decode cL_law 1274 = .ok (.aload_n 0, 1) := by decide +kernel
theorem dL_law_1275 : decode cL_law 1275 = .ok (.iload_n 3, 1) := by decide +kernel
theorem dL_law_1276 : decode cL_law 1276 = .ok (.iconst 1, 1) := by decide +kernel
theorem dL_law_1277 : decode cL_law 1277 = .ok (.iadd, 1) := by decide +kernel
theorem dL_law_1278 : decode cL_law 1278 = .ok (.iaload, 1) := by decide +kernel
theorem dL_law_1279 : decode cL_law 1279 = .ok (.invokevirtual 167, 3) := by decide +kernel
theorem dL_law_1282 : decode cL_law 1282 = .ok (.if_icmp .eq 71, 3) := by decide +kernel
theorem dL_law_1285 : decode cL_law 1285 = .ok (.iconst 0, 1) := by decide +kernel
theorem dL_law_1286 : decode cL_law 1286 = .ok (.ireturn, 1) := by decide +kernel
theorem dL_law_1287 : decode cL_law 1287 = .ok (.aload_n 1, 1) := by decide +kernel
theorem dL_law_1288 : decode cL_law 1288 = .ok (.aload_n 0, 1) := by decide +kernel
theorem dL_law_1289 : decode cL_law 1289 = .ok (.iload_n 3, 1) := by decide +kernel
theorem dL_law_1290 : decode cL_law 1290 = .ok (.iconst 1, 1) := by decide +kernel
theorem dL_law_1291 : decode cL_law 1291 = .ok (.iadd, 1) := by decide +kernel
theorem dL_law_1292 : decode cL_law 1292 = .ok (.iaload, 1) := by decide +kernel
theorem dL_law_1293 : decode cL_law 1293 = .ok (.aload_n 0, 1) := by decide +kernel
theorem dL_law_1294 : decode cL_law 1294 = .ok (.iload_n 3, 1) := by decide +kernel
theorem dL_law_1295 : decode cL_law 1295 = .ok (.iconst 2, 1) := by decide +kernel
theorem dL_law_1296 : decode cL_law 1296 = .ok (.iadd, 1) := by decide +kernel
theorem dL_law_1297 : decode cL_law 1297 = .ok (.iaload, 1) := by decide +kernel
theorem dL_law_1298 : decode cL_law 1298 = .ok (.aload_n 0, 1) := by decide +kernel
theorem dL_law_1299 : decode cL_law 1299 = .ok (.iload_n 3, 1) := by decide +kernel
theorem dL_law_1300 : decode cL_law 1300 = .ok (.iconst 3, 1) := by decide +kernel
theorem dL_law_1301 : decode cL_law 1301 = .ok (.iadd, 1) := by decide +kernel
theorem dL_law_1302 : decode cL_law 1302 = .ok (.iaload, 1) := by decide +kernel
theorem dL_law_1303 : decode cL_law 1303 = .ok (.invokevirtual 168, 3) := by decide +kernel
theorem dL_law_1306 : decode cL_law 1306 = .ok (.aload_n 2, 1) := by decide +kernel
theorem dL_law_1307 : decode cL_law 1307 = .ok (.aload_n 0, 1) := by decide +kernel
theorem dL_law_1308 : decode cL_law 1308 = .ok (.iload_n 3, 1) := by decide +kernel
theorem dL_law_1309 : decode cL_law 1309 = .ok (.iconst 1, 1) := by decide +kernel
theorem dL_law_1310 : decode cL_law 1310 = .ok (.iadd, 1) := by decide +kernel
theorem dL_law_1311 : decode cL_law 1311 = .ok (.iaload, 1) := by decide +kernel
theorem dL_law_1312 : decode cL_law 1312 = .ok (.aload_n 0, 1) := by decide +kernel
theorem dL_law_1313 : decode cL_law 1313 = .ok (.iload_n 3, 1) := by decide +kernel
theorem dL_law_1314 : decode cL_law 1314 = .ok (.iconst 2, 1) := by decide +kernel
theorem dL_law_1315 : decode cL_law 1315 = .ok (.iadd, 1) := by decide +kernel
theorem dL_law_1316 : decode cL_law 1316 = .ok (.iaload, 1) := by decide +kernel
theorem dL_law_1317 : decode cL_law 1317 = .ok (.aload_n 0, 1) := by decide +kernel
theorem dL_law_1318 : decode cL_law 1318 = .ok (.iload_n 3, 1) := by decide +kernel
theorem dL_law_1319 : decode cL_law 1319 = .ok (.iconst 3, 1) := by decide +kernel
theorem dL_law_1320 : decode cL_law 1320 = .ok (.iadd, 1) := by decide +kernel
theorem dL_law_1321 : decode cL_law 1321 = .ok (.iaload, 1) := by decide +kernel
theorem dL_law_1322 : decode cL_law 1322 = .ok (.invokevirtual 171, 3) := by decide +kernel
theorem dL_law_1325 : decode cL_law 1325 = .ok (.if_icmp .eq 28, 3) := by decide +kernel
theorem dL_law_1328 : decode cL_law 1328 = .ok (.iconst 0, 1) := by decide +kernel
theorem dL_law_1329 : decode cL_law 1329 = .ok (.ireturn, 1) := by decide +kernel
theorem dL_law_1330 : decode cL_law 1330 = .ok (.aload_n 1, 1) := by decide +kernel
theorem dL_law_1331 : decode cL_law 1331 = .ok (.aload_n 0, 1) := by decide +kernel
theorem dL_law_1332 : decode cL_law 1332 = .ok (.iload_n 3, 1) := by decide +kernel
theorem dL_law_1333 : decode cL_law 1333 = .ok (.iconst 1, 1) := by decide +kernel
theorem dL_law_1334 : decode cL_law 1334 = .ok (.iadd, 1) := by decide +kernel
theorem dL_law_1335 : decode cL_law 1335 = .ok (.iaload, 1) := by decide +kernel
theorem dL_law_1336 : decode cL_law 1336 = .ok (.invokevirtual 172, 3) := by decide +kernel
theorem dL_law_1339 : decode cL_law 1339 = .ok (.aload_n 2, 1) := by decide +kernel
theorem dL_law_1340 : decode cL_law 1340 = .ok (.aload_n 0, 1) := by decide +kernel
theorem dL_law_1341 : decode cL_law 1341 = .ok (.iload_n 3, 1) := by decide +kernel
theorem dL_law_1342 : decode cL_law 1342 = .ok (.iconst 1, 1) := by decide +kernel
theorem dL_law_1343 : decode cL_law 1343 = .ok (.iadd, 1) := by decide +kernel
theorem dL_law_1344 : decode cL_law 1344 = .ok (.iaload, 1) := by decide +kernel
theorem dL_law_1345 : decode cL_law 1345 = .ok (.invokevirtual 175, 3) := by decide +kernel
theorem dL_law_1348 : decode cL_law 1348 = .ok (.if_icmp .eq 5, 3) := by decide +kernel
theorem dL_law_1351 : decode cL_law 1351 = .ok (.iconst 0, 1) := by decide +kernel
theorem dL_law_1352 : decode cL_law 1352 = .ok (.ireturn, 1) := by decide +kernel
theorem dL_law_1353 : decode cL_law 1353 = .ok (.iinc 3 7, 3) := by decide +kernel
theorem dL_law_1356 : decode cL_law 1356 = .ok (.goto (-1338), 3) := by decide +kernel
theorem dL_law_1359 : decode cL_law 1359 = .ok (.iconst 1, 1) := by decide +kernel
theorem dL_law_1360 : decode cL_law 1360 = .ok (.ireturn, 1) := by decide +kernel
