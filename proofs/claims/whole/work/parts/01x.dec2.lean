theorem dX12_readRun_130 : decode cX12_readRun 130 = .ok (.iload_n 2, 1) := by decide +kernel
theorem dX12_readRun_131 : decode cX12_readRun 131 = .ok (.imul, 1) := by decide +kernel
theorem dX12_readRun_132 : decode cX12_readRun 132 = .ok (.iload_n 1, 1) := by decide +kernel
theorem dX12_readRun_133 : decode cX12_readRun 133 = .ok (.iadd, 1) := by decide +kernel
theorem dX12_readRun_134 : decode cX12_readRun 134 = .ok (.ishl, 1) := by decide +kernel
theorem dX12_readRun_135 : decode cX12_readRun 135 = .ok (.ior, 1) := by decide +kernel
theorem dX12_readRun_136 : decode cX12_readRun 136 = .ok (.ior, 1) := by decide +kernel
theorem dX12_readRun_137 : decode cX12_readRun 137 = .ok (.putfield 138, 3) := by decide +kernel
theorem dX12_readRun_140 : decode cX12_readRun 140 = .ok (.aload_n 0, 1) := by decide +kernel
theorem dX12_readRun_141 : decode cX12_readRun 141 = .ok (.invokevirtual 59, 3) := by decide +kernel
theorem dX12_readRun_144 : decode cX12_readRun 144 = .ok (.aload_n 0, 1) := by decide +kernel
theorem dX12_readRun_145 : decode cX12_readRun 145 = .ok (.iconst 0, 1) := by decide +kernel
theorem dX12_readRun_146 : decode cX12_readRun 146 = .ok (.bipush 60, 2) := by decide +kernel
theorem dX12_readRun_148 : decode cX12_readRun 148 = .ok (.invokevirtual 106, 3) := by decide +kernel
theorem dX12_readRun_151 : decode cX12_readRun 151 = .ok (.ifCond .ne 5, 3) := by decide +kernel
theorem dX12_readRun_154 : decode cX12_readRun 154 = .ok (.iconst 0, 1) := by decide +kernel
theorem dX12_readRun_155 : decode cX12_readRun 155 = .ok (.ireturn, 1) := by decide +kernel
theorem dX12_readRun_156 : decode cX12_readRun 156 = .ok (.aload_n 0, 1) := by decide +kernel
theorem dX12_readRun_157 : decode cX12_readRun 157 = .ok (.getfield 141, 3) := by decide +kernel
theorem dX12_readRun_160 : decode cX12_readRun 160 = .ok (.iconst 5, 1) := by decide +kernel
theorem dX12_readRun_161 : decode cX12_readRun 161 = .ok (.iload_n 1, 1) := by decide +kernel
theorem dX12_readRun_162 : decode cX12_readRun 162 = .ok (.imul, 1) := by decide +kernel
theorem dX12_readRun_163 : decode cX12_readRun 163 = .ok (.iload_n 2, 1) := by decide +kernel
theorem dX12_readRun_164 : decode cX12_readRun 164 = .ok (.iadd, 1) := by decide +kernel
theorem dX12_readRun_165 : decode cX12_readRun 165 = .ok (.aload_n 0, 1) := by decide +kernel
theorem dX12_readRun_166 : decode cX12_readRun 166 = .ok (.getfield 56, 3) := by decide +kernel
theorem dX12_readRun_169 : decode cX12_readRun 169 = .ok (.iastore, 1) := by decide +kernel
theorem dX12_readRun_170 : decode cX12_readRun 170 = .ok (.aload_n 0, 1) := by decide +kernel
theorem dX12_readRun_171 : decode cX12_readRun 171 = .ok (.getfield 141, 3) := by decide +kernel
theorem dX12_readRun_174 : decode cX12_readRun 174 = .ok (.iconst 5, 1) := by decide +kernel
theorem dX12_readRun_175 : decode cX12_readRun 175 = .ok (.iload_n 2, 1) := by decide +kernel
theorem dX12_readRun_176 : decode cX12_readRun 176 = .ok (.imul, 1) := by decide +kernel
theorem dX12_readRun_177 : decode cX12_readRun 177 = .ok (.iload_n 1, 1) := by decide +kernel
theorem dX12_readRun_178 : decode cX12_readRun 178 = .ok (.iadd, 1) := by decide +kernel
theorem dX12_readRun_179 : decode cX12_readRun 179 = .ok (.aload_n 0, 1) := by decide +kernel
theorem dX12_readRun_180 : decode cX12_readRun 180 = .ok (.getfield 56, 3) := by decide +kernel
theorem dX12_readRun_183 : decode cX12_readRun 183 = .ok (.iastore, 1) := by decide +kernel
theorem dX12_readRun_184 : decode cX12_readRun 184 = .ok (.iconst 1, 1) := by decide +kernel
theorem dX12_readRun_185 : decode cX12_readRun 185 = .ok (.ireturn, 1) := by decide +kernel
theorem dX12_readLook_0 : decode cX12_readLook 0 = .ok (.aload_n 0, 1) := by decide +kernel
theorem dX12_readLook_1 : decode cX12_readLook 1 = .ok (.getfield 144, 3) := by decide +kernel
theorem dX12_readLook_4 : decode cX12_readLook 4 = .ok (.iconst 4, 1) := by decide +kernel
theorem dX12_readLook_5 : decode cX12_readLook 5 = .ok (.if_icmp .ne 9, 3) := by decide +kernel
theorem dX12_readLook_8 : decode cX12_readLook 8 = .ok (.aload_n 0, 1) := by decide +kernel
theorem dX12_readLook_9 : decode cX12_readLook 9 = .ok (.iconst 4, 1) := by decide +kernel
theorem dX12_readLook_10 : decode cX12_readLook 10 = .ok (.invokevirtual 49, 3) := by decide +kernel
theorem dX12_readLook_13 : decode cX12_readLook 13 = .ok (.ireturn, 1) := by decide +kernel
theorem dX12_readLook_14 : decode cX12_readLook 14 = .ok (.aload_n 0, 1) := by decide +kernel
theorem dX12_readLook_15 : decode cX12_readLook 15 = .ok (.invokevirtual 59, 3) := by decide +kernel
theorem dX12_readLook_18 : decode cX12_readLook 18 = .ok (.aload_n 0, 1) := by decide +kernel
theorem dX12_readLook_19 : decode cX12_readLook 19 = .ok (.aload_n 0, 1) := by decide +kernel
theorem dX12_readLook_20 : decode cX12_readLook 20 = .ok (.getfield 147, 3) := by decide +kernel
theorem dX12_readLook_23 : decode cX12_readLook 23 = .ok (.aload_n 0, 1) := by decide +kernel
theorem dX12_readLook_24 : decode cX12_readLook 24 = .ok (.getfield 144, 3) := by decide +kernel
theorem dX12_readLook_27 : decode cX12_readLook 27 = .ok (.invokevirtual 102, 3) := by decide +kernel
theorem dX12_readLook_30 : decode cX12_readLook 30 = .ok (.ifCond .eq 13, 3) := by decide +kernel
theorem dX12_readLook_33 : decode cX12_readLook 33 = .ok (.aload_n 0, 1) := by decide +kernel
theorem dX12_readLook_34 : decode cX12_readLook 34 = .ok (.iconst 0, 1) := by decide +kernel
theorem dX12_readLook_35 : decode cX12_readLook 35 = .ok (.bipush 99, 2) := by decide +kernel
theorem dX12_readLook_37 : decode cX12_readLook 37 = .ok (.invokevirtual 106, 3) := by decide +kernel
theorem dX12_readLook_40 : decode cX12_readLook 40 = .ok (.ifCond .ne 5, 3) := by decide +kernel
theorem dX12_readLook_43 : decode cX12_readLook 43 = .ok (.iconst 0, 1) := by decide +kernel
theorem dX12_readLook_44 : decode cX12_readLook 44 = .ok (.ireturn, 1) := by decide +kernel
theorem dX12_readLook_45 : decode cX12_readLook 45 = .ok (.aload_n 0, 1) := by decide +kernel
theorem dX12_readLook_46 : decode cX12_readLook 46 = .ok (.getfield 150, 3) := by decide +kernel
theorem dX12_readLook_49 : decode cX12_readLook 49 = .ok (.aload_n 0, 1) := by decide +kernel
theorem dX12_readLook_50 : decode cX12_readLook 50 = .ok (.getfield 144, 3) := by decide +kernel
theorem dX12_readLook_53 : decode cX12_readLook 53 = .ok (.aload_n 0, 1) := by decide +kernel
theorem dX12_readLook_54 : decode cX12_readLook 54 = .ok (.getfield 56, 3) := by decide +kernel
theorem dX12_readLook_57 : decode cX12_readLook 57 = .ok (.iastore, 1) := by decide +kernel
theorem dX12_readLook_58 : decode cX12_readLook 58 = .ok (.aload_n 0, 1) := by decide +kernel
theorem dX12_readLook_59 : decode cX12_readLook 59 = .ok (.dup, 1) := by decide +kernel
theorem dX12_readLook_60 : decode cX12_readLook 60 = .ok (.getfield 144, 3) := by decide +kernel
theorem dX12_readLook_63 : decode cX12_readLook 63 = .ok (.iconst 1, 1) := by decide +kernel
theorem dX12_readLook_64 : decode cX12_readLook 64 = .ok (.iadd, 1) := by decide +kernel
theorem dX12_readLook_65 : decode cX12_readLook 65 = .ok (.putfield 144, 3) := by decide +kernel
theorem dX12_readLook_68 : decode cX12_readLook 68 = .ok (.iconst 1, 1) := by decide +kernel
theorem dX12_readLook_69 : decode cX12_readLook 69 = .ok (.ireturn, 1) := by decide +kernel
theorem dX12_readSmall_0 : decode cX12_readSmall 0 = .ok (.aload_n 0, 1) := by decide +kernel
theorem dX12_readSmall_1 : decode cX12_readSmall 1 = .ok (.invokevirtual 153, 3) := by decide +kernel
theorem dX12_readSmall_4 : decode cX12_readSmall 4 = .ok (.istore_n 1, 1) := by decide +kernel
theorem dX12_readSmall_5 : decode cX12_readSmall 5 = .ok (.iload_n 1, 1) := by decide +kernel
theorem dX12_readSmall_6 : decode cX12_readSmall 6 = .ok (.iconst (-1), 1) := by decide +kernel
theorem dX12_readSmall_7 : decode cX12_readSmall 7 = .ok (.if_icmp .ne 9, 3) := by decide +kernel
theorem dX12_readSmall_10 : decode cX12_readSmall 10 = .ok (.aload_n 0, 1) := by decide +kernel
theorem dX12_readSmall_11 : decode cX12_readSmall 11 = .ok (.iconst 1, 1) := by decide +kernel
theorem dX12_readSmall_12 : decode cX12_readSmall 12 = .ok (.invokevirtual 49, 3) := by decide +kernel
theorem dX12_readSmall_15 : decode cX12_readSmall 15 = .ok (.ireturn, 1) := by decide +kernel
theorem dX12_readSmall_16 : decode cX12_readSmall 16 = .ok (.aload_n 0, 1) := by decide +kernel
theorem dX12_readSmall_17 : decode cX12_readSmall 17 = .ok (.getfield 156, 3) := by decide +kernel
theorem dX12_readSmall_20 : decode cX12_readSmall 20 = .ok (.iload_n 1, 1) := by decide +kernel
theorem dX12_readSmall_21 : decode cX12_readSmall 21 = .ok (.ishr, 1) := by decide +kernel
theorem dX12_readSmall_22 : decode cX12_readSmall 22 = .ok (.iconst 1, 1) := by decide +kernel
theorem dX12_readSmall_23 : decode cX12_readSmall 23 = .ok (.iand, 1) := by decide +kernel
theorem dX12_readSmall_24 : decode cX12_readSmall 24 = .ok (.iconst 1, 1) := by decide +kernel
theorem dX12_readSmall_25 : decode cX12_readSmall 25 = .ok (.if_icmp .ne 9, 3) := by decide +kernel
theorem dX12_readSmall_28 : decode cX12_readSmall 28 = .ok (.aload_n 0, 1) := by decide +kernel
theorem dX12_readSmall_29 : decode cX12_readSmall 29 = .ok (.iconst 3, 1) := by decide +kernel
theorem dX12_readSmall_30 : decode cX12_readSmall 30 = .ok (.invokevirtual 49, 3) := by decide +kernel
theorem dX12_readSmall_33 : decode cX12_readSmall 33 = .ok (.ireturn, 1) := by decide +kernel
theorem dX12_readSmall_34 : decode cX12_readSmall 34 = .ok (.aload_n 0, 1) := by decide +kernel
theorem dX12_readSmall_35 : decode cX12_readSmall 35 = .ok (.dup, 1) := by decide +kernel
theorem dX12_readSmall_36 : decode cX12_readSmall 36 = .ok (.getfield 156, 3) := by decide +kernel
theorem dX12_readSmall_39 : decode cX12_readSmall 39 = .ok (.iconst 1, 1) := by decide +kernel
theorem dX12_readSmall_40 : decode cX12_readSmall 40 = .ok (.iload_n 1, 1) := by decide +kernel
theorem dX12_readSmall_41 : decode cX12_readSmall 41 = .ok (.ishl, 1) := by decide +kernel
theorem dX12_readSmall_42 : decode cX12_readSmall 42 = .ok (.ior, 1) := by decide +kernel
theorem dX12_readSmall_43 : decode cX12_readSmall 43 = .ok (.putfield 156, 3) := by decide +kernel
theorem dX12_readSmall_46 : decode cX12_readSmall 46 = .ok (.aload_n 0, 1) := by decide +kernel
theorem dX12_readSmall_47 : decode cX12_readSmall 47 = .ok (.invokevirtual 59, 3) := by decide +kernel
theorem dX12_readSmall_50 : decode cX12_readSmall 50 = .ok (.iload_n 1, 1) := by decide +kernel
theorem dX12_readSmall_51 : decode cX12_readSmall 51 = .ok (.bipush 9, 2) := by decide +kernel
theorem dX12_readSmall_53 : decode cX12_readSmall 53 = .ok (.if_icmp .ne 45, 3) := by decide +kernel
theorem dX12_readSmall_56 : decode cX12_readSmall 56 = .ok (.aload_n 0, 1) := by decide +kernel
theorem dX12_readSmall_57 : decode cX12_readSmall 57 = .ok (.iconst 0, 1) := by decide +kernel
theorem dX12_readSmall_58 : decode cX12_readSmall 58 = .ok (.bipush 20, 2) := by decide +kernel
theorem dX12_readSmall_60 : decode cX12_readSmall 60 = .ok (.invokevirtual 106, 3) := by decide +kernel
theorem dX12_readSmall_63 : decode cX12_readSmall 63 = .ok (.ifCond .ne 5, 3) := by decide +kernel
theorem dX12_readSmall_66 : decode cX12_readSmall 66 = .ok (.iconst 0, 1) := by decide +kernel
theorem dX12_readSmall_67 : decode cX12_readSmall 67 = .ok (.ireturn, 1) := by decide +kernel
theorem dX12_readSmall_68 : decode cX12_readSmall 68 = .ok (.aload_n 0, 1) := by decide +kernel
theorem dX12_readSmall_69 : decode cX12_readSmall 69 = .ok (.aload_n 0, 1) := by decide +kernel
theorem dX12_readSmall_70 : decode cX12_readSmall 70 = .ok (.getfield 56, 3) := by decide +kernel
theorem dX12_readSmall_73 : decode cX12_readSmall 73 = .ok (.putfield 159, 3) := by decide +kernel
theorem dX12_readSmall_76 : decode cX12_readSmall 76 = .ok (.aload_n 0, 1) := by decide +kernel
theorem dX12_readSmall_77 : decode cX12_readSmall 77 = .ok (.iconst 0, 1) := by decide +kernel
theorem dX12_readSmall_78 : decode cX12_readSmall 78 = .ok (.bipush 20, 2) := by decide +kernel
theorem dX12_readSmall_80 : decode cX12_readSmall 80 = .ok (.invokevirtual 106, 3) := by decide +kernel
theorem dX12_readSmall_83 : decode cX12_readSmall 83 = .ok (.ifCond .ne 5, 3) := by decide +kernel
theorem dX12_readSmall_86 : decode cX12_readSmall 86 = .ok (.iconst 0, 1) := by decide +kernel
theorem dX12_readSmall_87 : decode cX12_readSmall 87 = .ok (.ireturn, 1) := by decide +kernel
theorem dX12_readSmall_88 : decode cX12_readSmall 88 = .ok (.aload_n 0, 1) := by decide +kernel
theorem dX12_readSmall_89 : decode cX12_readSmall 89 = .ok (.aload_n 0, 1) := by decide +kernel
theorem dX12_readSmall_90 : decode cX12_readSmall 90 = .ok (.getfield 56, 3) := by decide +kernel
theorem dX12_readSmall_93 : decode cX12_readSmall 93 = .ok (.putfield 162, 3) := by decide +kernel
theorem dX12_readSmall_96 : decode cX12_readSmall 96 = .ok (.iconst 1, 1) := by decide +kernel
theorem dX12_readSmall_97 : decode cX12_readSmall 97 = .ok (.ireturn, 1) := by decide +kernel
theorem dX12_readSmall_98 : decode cX12_readSmall 98 = .ok (.aload_n 0, 1) := by decide +kernel
theorem dX12_readSmall_99 : decode cX12_readSmall 99 = .ok (.iload_n 1, 1) := by decide +kernel
theorem dX12_readSmall_100 : decode cX12_readSmall 100 = .ok (.invokestatic 165, 3) := by decide +kernel
theorem dX12_readSmall_103 : decode cX12_readSmall 103 = .ok (.iload_n 1, 1) := by decide +kernel
theorem dX12_readSmall_104 : decode cX12_readSmall 104 = .ok (.invokestatic 168, 3) := by decide +kernel
theorem dX12_readSmall_107 : decode cX12_readSmall 107 = .ok (.invokevirtual 106, 3) := by decide +kernel
theorem dX12_readSmall_110 : decode cX12_readSmall 110 = .ok (.ifCond .ne 5, 3) := by decide +kernel
theorem dX12_readSmall_113 : decode cX12_readSmall 113 = .ok (.iconst 0, 1) := by decide +kernel
theorem dX12_readSmall_114 : decode cX12_readSmall 114 = .ok (.ireturn, 1) := by decide +kernel
theorem dX12_readSmall_115 : decode cX12_readSmall 115 = .ok (.aload_n 0, 1) := by decide +kernel
theorem dX12_readSmall_116 : decode cX12_readSmall 116 = .ok (.getfield 171, 3) := by decide +kernel
theorem dX12_readSmall_119 : decode cX12_readSmall 119 = .ok (.iload_n 1, 1) := by decide +kernel
theorem dX12_readSmall_120 : decode cX12_readSmall 120 = .ok (.aload_n 0, 1) := by decide +kernel
theorem dX12_readSmall_121 : decode cX12_readSmall 121 = .ok (.getfield 56, 3) := by decide +kernel
theorem dX12_readSmall_124 : decode cX12_readSmall 124 = .ok (.iastore, 1) := by decide +kernel
theorem dX12_readSmall_125 : decode cX12_readSmall 125 = .ok (.iconst 1, 1) := by decide +kernel
theorem dX12_readSmall_126 : decode cX12_readSmall 126 = .ok (.ireturn, 1) := by decide +kernel
theorem dX12_readCamp_0 : decode cX12_readCamp 0 = .ok (.aload_n 0, 1) := by decide +kernel
theorem dX12_readCamp_1 : decode cX12_readCamp 1 = .ok (.iconst 0, 1) := by decide +kernel
theorem dX12_readCamp_2 : decode cX12_readCamp 2 = .ok (.putfield 95, 3) := by decide +kernel
theorem dX12_readCamp_5 : decode cX12_readCamp 5 = .ok (.aload_n 0, 1) := by decide +kernel
theorem dX12_readCamp_6 : decode cX12_readCamp 6 = .ok (.iconst 0, 1) := by decide +kernel
theorem dX12_readCamp_7 : decode cX12_readCamp 7 = .ok (.putfield 123, 3) := by decide +kernel
theorem dX12_readCamp_10 : decode cX12_readCamp 10 = .ok (.aload_n 0, 1) := by decide +kernel
theorem dX12_readCamp_11 : decode cX12_readCamp 11 = .ok (.iconst 0, 1) := by decide +kernel
theorem dX12_readCamp_12 : decode cX12_readCamp 12 = .ok (.putfield 144, 3) := by decide +kernel
theorem dX12_readCamp_15 : decode cX12_readCamp 15 = .ok (.aload_n 0, 1) := by decide +kernel
theorem dX12_readCamp_16 : decode cX12_readCamp 16 = .ok (.bipush 8, 2) := by decide +kernel
theorem dX12_readCamp_18 : decode cX12_readCamp 18 = .ok (.putfield 159, 3) := by decide +kernel
theorem dX12_readCamp_21 : decode cX12_readCamp 21 = .ok (.aload_n 0, 1) := by decide +kernel
theorem dX12_readCamp_22 : decode cX12_readCamp 22 = .ok (.iconst 4, 1) := by decide +kernel
theorem dX12_readCamp_23 : decode cX12_readCamp 23 = .ok (.putfield 162, 3) := by decide +kernel
theorem dX12_readCamp_26 : decode cX12_readCamp 26 = .ok (.aload_n 0, 1) := by decide +kernel
theorem dX12_readCamp_27 : decode cX12_readCamp 27 = .ok (.iconst 0, 1) := by decide +kernel
theorem dX12_readCamp_28 : decode cX12_readCamp 28 = .ok (.putfield 156, 3) := by decide +kernel
theorem dX12_readCamp_31 : decode cX12_readCamp 31 = .ok (.aload_n 0, 1) := by decide +kernel
theorem dX12_readCamp_32 : decode cX12_readCamp 32 = .ok (.iconst 0, 1) := by decide +kernel
theorem dX12_readCamp_33 : decode cX12_readCamp 33 = .ok (.putfield 138, 3) := by decide +kernel
theorem dX12_readCamp_36 : decode cX12_readCamp 36 = .ok (.aload_n 0, 1) := by decide +kernel
theorem dX12_readCamp_37 : decode cX12_readCamp 37 = .ok (.iconst 0, 1) := by decide +kernel
theorem dX12_readCamp_38 : decode cX12_readCamp 38 = .ok (.putfield 174, 3) := by decide +kernel
theorem dX12_readCamp_41 : decode cX12_readCamp 41 = .ok (.iconst 0, 1) := by decide +kernel
theorem dX12_readCamp_42 : decode cX12_readCamp 42 = .ok (.istore_n 1, 1) := by decide +kernel
theorem dX12_readCamp_43 : decode cX12_readCamp 43 = .ok (.iload_n 1, 1) := by decide +kernel
theorem dX12_readCamp_44 : decode cX12_readCamp 44 = .ok (.bipush 9, 2) := by decide +kernel
theorem dX12_readCamp_46 : decode cX12_readCamp 46 = .ok (.if_icmp .ge 19, 3) := by decide +kernel
theorem dX12_readCamp_49 : decode cX12_readCamp 49 = .ok (.aload_n 0, 1) := by decide +kernel
theorem dX12_readCamp_50 : decode cX12_readCamp 50 = .ok (.getfield 171, 3) := by decide +kernel
theorem dX12_readCamp_53 : decode cX12_readCamp 53 = .ok (.iload_n 1, 1) := by decide +kernel
theorem dX12_readCamp_54 : decode cX12_readCamp 54 = .ok (.iload_n 1, 1) := by decide +kernel
theorem dX12_readCamp_55 : decode cX12_readCamp 55 = .ok (.invokestatic 177, 3) := by decide +kernel
theorem dX12_readCamp_58 : decode cX12_readCamp 58 = .ok (.iastore, 1) := by decide +kernel
theorem dX12_readCamp_59 : decode cX12_readCamp 59 = .ok (.iinc 1 1, 3) := by decide +kernel
theorem dX12_readCamp_62 : decode cX12_readCamp 62 = .ok (.goto (-19), 3) := by decide +kernel
theorem dX12_readCamp_65 : decode cX12_readCamp 65 = .ok (.iconst 0, 1) := by decide +kernel
theorem dX12_readCamp_66 : decode cX12_readCamp 66 = .ok (.istore_n 1, 1) := by decide +kernel
theorem dX12_readCamp_67 : decode cX12_readCamp 67 = .ok (.iload_n 1, 1) := by decide +kernel
theorem dX12_readCamp_68 : decode cX12_readCamp 68 = .ok (.bipush 25, 2) := by decide +kernel
theorem dX12_readCamp_70 : decode cX12_readCamp 70 = .ok (.if_icmp .ge 29, 3) := by decide +kernel
theorem dX12_readCamp_73 : decode cX12_readCamp 73 = .ok (.aload_n 0, 1) := by decide +kernel
theorem dX12_readCamp_74 : decode cX12_readCamp 74 = .ok (.getfield 141, 3) := by decide +kernel
theorem dX12_readCamp_77 : decode cX12_readCamp 77 = .ok (.iload_n 1, 1) := by decide +kernel
theorem dX12_readCamp_78 : decode cX12_readCamp 78 = .ok (.iload_n 1, 1) := by decide +kernel
theorem dX12_readCamp_79 : decode cX12_readCamp 79 = .ok (.iconst 5, 1) := by decide +kernel
theorem dX12_readCamp_80 : decode cX12_readCamp 80 = .ok (.idiv, 1) := by decide +kernel
theorem dX12_readCamp_81 : decode cX12_readCamp 81 = .ok (.iload_n 1, 1) := by decide +kernel
theorem dX12_readCamp_82 : decode cX12_readCamp 82 = .ok (.iconst 5, 1) := by decide +kernel
theorem dX12_readCamp_83 : decode cX12_readCamp 83 = .ok (.irem, 1) := by decide +kernel
theorem dX12_readCamp_84 : decode cX12_readCamp 84 = .ok (.if_icmp .ne 7, 3) := by decide +kernel
theorem dX12_readCamp_87 : decode cX12_readCamp 87 = .ok (.iconst 0, 1) := by decide +kernel
theorem dX12_readCamp_88 : decode cX12_readCamp 88 = .ok (.goto 4, 3) := by decide +kernel
theorem dX12_readCamp_91 : decode cX12_readCamp 91 = .ok (.iconst 5, 1) := by decide +kernel
theorem dX12_readCamp_92 : decode cX12_readCamp 92 = .ok (.iastore, 1) := by decide +kernel
theorem dX12_readCamp_93 : decode cX12_readCamp 93 = .ok (.iinc 1 1, 3) := by decide +kernel
theorem dX12_readCamp_96 : decode cX12_readCamp 96 = .ok (.goto (-29), 3) := by decide +kernel
theorem dX12_readCamp_99 : decode cX12_readCamp 99 = .ok (.aload_n 0, 1) := by decide +kernel
theorem dX12_readCamp_100 : decode cX12_readCamp 100 = .ok (.getfield 27, 3) := by decide +kernel
theorem dX12_readCamp_103 : decode cX12_readCamp 103 = .ok (.ifCond .eq 125, 3) := by decide +kernel
theorem dX12_readCamp_106 : decode cX12_readCamp 106 = .ok (.aload_n 0, 1) := by decide +kernel
theorem dX12_readCamp_107 : decode cX12_readCamp 107 = .ok (.ldc 180, 2) := by decide +kernel
theorem dX12_readCamp_109 : decode cX12_readCamp 109 = .ok (.invokevirtual 73, 3) := by decide +kernel
theorem dX12_readCamp_112 : decode cX12_readCamp 112 = .ok (.ifCond .eq 10, 3) := by decide +kernel
theorem dX12_readCamp_115 : decode cX12_readCamp 115 = .ok (.aload_n 0, 1) := by decide +kernel
theorem dX12_readCamp_116 : decode cX12_readCamp 116 = .ok (.invokevirtual 182, 3) := by decide +kernel
theorem dX12_readCamp_119 : decode cX12_readCamp 119 = .ok (.goto 71, 3) := by decide +kernel
theorem dX12_readCamp_122 : decode cX12_readCamp 122 = .ok (.aload_n 0, 1) := by decide +kernel
theorem dX12_readCamp_123 : decode cX12_readCamp 123 = .ok (.ldc 186, 2) := by decide +kernel
theorem dX12_readCamp_125 : decode cX12_readCamp 125 = .ok (.invokevirtual 73, 3) := by decide +kernel
theorem dX12_readCamp_128 : decode cX12_readCamp 128 = .ok (.ifCond .eq 10, 3) := by decide +kernel
theorem dX12_readCamp_131 : decode cX12_readCamp 131 = .ok (.aload_n 0, 1) := by decide +kernel
theorem dX12_readCamp_132 : decode cX12_readCamp 132 = .ok (.invokevirtual 188, 3) := by decide +kernel
theorem dX12_readCamp_135 : decode cX12_readCamp 135 = .ok (.goto 55, 3) := by decide +kernel
theorem dX12_readCamp_138 : decode cX12_readCamp 138 = .ok (.aload_n 0, 1) := by decide +kernel
theorem dX12_readCamp_139 : decode cX12_readCamp 139 = .ok (.ldc 191, 2) := by decide +kernel
theorem dX12_readCamp_141 : decode cX12_readCamp 141 = .ok (.invokevirtual 73, 3) := by decide +kernel
theorem dX12_readCamp_144 : decode cX12_readCamp 144 = .ok (.ifCond .eq 10, 3) := by decide +kernel
theorem dX12_readCamp_147 : decode cX12_readCamp 147 = .ok (.aload_n 0, 1) := by decide +kernel
theorem dX12_readCamp_148 : decode cX12_readCamp 148 = .ok (.invokevirtual 193, 3) := by decide +kernel
theorem dX12_readCamp_151 : decode cX12_readCamp 151 = .ok (.goto 39, 3) := by decide +kernel
theorem dX12_readCamp_154 : decode cX12_readCamp 154 = .ok (.aload_n 0, 1) := by decide +kernel
theorem dX12_readCamp_155 : decode cX12_readCamp 155 = .ok (.ldc 196, 2) := by decide +kernel
theorem dX12_readCamp_157 : decode cX12_readCamp 157 = .ok (.invokevirtual 73, 3) := by decide +kernel
theorem dX12_readCamp_160 : decode cX12_readCamp 160 = .ok (.ifCond .eq 10, 3) := by decide +kernel
theorem dX12_readCamp_163 : decode cX12_readCamp 163 = .ok (.aload_n 0, 1) := by decide +kernel
theorem dX12_readCamp_164 : decode cX12_readCamp 164 = .ok (.invokevirtual 198, 3) := by decide +kernel
theorem dX12_readCamp_167 : decode cX12_readCamp 167 = .ok (.goto 23, 3) := by decide +kernel
theorem dX12_readCamp_170 : decode cX12_readCamp 170 = .ok (.aload_n 0, 1) := by decide +kernel
theorem dX12_readCamp_171 : decode cX12_readCamp 171 = .ok (.ldc 200, 2) := by decide +kernel
theorem dX12_readCamp_173 : decode cX12_readCamp 173 = .ok (.invokevirtual 73, 3) := by decide +kernel
theorem dX12_readCamp_176 : decode cX12_readCamp 176 = .ok (.ifCond .eq 10, 3) := by decide +kernel
theorem dX12_readCamp_179 : decode cX12_readCamp 179 = .ok (.aload_n 0, 1) := by decide +kernel
theorem dX12_readCamp_180 : decode cX12_readCamp 180 = .ok (.invokevirtual 202, 3) := by decide +kernel
theorem dX12_readCamp_183 : decode cX12_readCamp 183 = .ok (.goto 7, 3) := by decide +kernel
theorem dX12_readCamp_186 : decode cX12_readCamp 186 = .ok (.aload_n 0, 1) := by decide +kernel
theorem dX12_readCamp_187 : decode cX12_readCamp 187 = .ok (.invokevirtual 205, 3) := by decide +kernel
theorem dX12_readCamp_190 : decode cX12_readCamp 190 = .ok (.istore_n 1, 1) := by decide +kernel
theorem dX12_readCamp_191 : decode cX12_readCamp 191 = .ok (.iload_n 1, 1) := by decide +kernel
theorem dX12_readCamp_192 : decode cX12_readCamp 192 = .ok (.ifCond .ne 5, 3) := by decide +kernel
theorem dX12_readCamp_195 : decode cX12_readCamp 195 = .ok (.iconst 0, 1) := by decide +kernel
theorem dX12_readCamp_196 : decode cX12_readCamp 196 = .ok (.ireturn, 1) := by decide +kernel
theorem dX12_readCamp_197 : decode cX12_readCamp 197 = .ok (.aload_n 0, 1) := by decide +kernel
theorem dX12_readCamp_198 : decode cX12_readCamp 198 = .ok (.getfield 27, 3) := by decide +kernel
theorem dX12_readCamp_201 : decode cX12_readCamp 201 = .ok (.iconst 3, 1) := by decide +kernel
theorem dX12_readCamp_202 : decode cX12_readCamp 202 = .ok (.if_icmp .eq 9, 3) := by decide +kernel
theorem dX12_readCamp_205 : decode cX12_readCamp 205 = .ok (.aload_n 0, 1) := by decide +kernel
theorem dX12_readCamp_206 : decode cX12_readCamp 206 = .ok (.iconst 1, 1) := by decide +kernel
theorem dX12_readCamp_207 : decode cX12_readCamp 207 = .ok (.invokevirtual 49, 3) := by decide +kernel
theorem dX12_readCamp_210 : decode cX12_readCamp 210 = .ok (.ireturn, 1) := by decide +kernel
theorem dX12_readCamp_211 : decode cX12_readCamp 211 = .ok (.aload_n 0, 1) := by decide +kernel
theorem dX12_readCamp_212 : decode cX12_readCamp 212 = .ok (.invokevirtual 59, 3) := by decide +kernel
theorem dX12_readCamp_215 : decode cX12_readCamp 215 = .ok (.aload_n 0, 1) := by decide +kernel
theorem dX12_readCamp_216 : decode cX12_readCamp 216 = .ok (.dup, 1) := by decide +kernel
theorem dX12_readCamp_217 : decode cX12_readCamp 217 = .ok (.getfield 174, 3) := by decide +kernel
theorem dX12_readCamp_220 : decode cX12_readCamp 220 = .ok (.iconst 1, 1) := by decide +kernel
theorem dX12_readCamp_221 : decode cX12_readCamp 221 = .ok (.iadd, 1) := by decide +kernel
theorem dX12_readCamp_222 : decode cX12_readCamp 222 = .ok (.putfield 174, 3) := by decide +kernel
theorem dX12_readCamp_225 : decode cX12_readCamp 225 = .ok (.goto (-126), 3) := by decide +kernel
theorem dX12_readCamp_228 : decode cX12_readCamp 228 = .ok (.iconst 1, 1) := by decide +kernel
theorem dX12_readCamp_229 : decode cX12_readCamp 229 = .ok (.ireturn, 1) := by decide +kernel
theorem dX12_init_0 : decode cX12_init 0 = .ok (.aload_n 0, 1) := by decide +kernel
theorem dX12_init_1 : decode cX12_init 1 = .ok (.invokespecial 208, 3) := by decide +kernel
theorem dX12_init_4 : decode cX12_init 4 = .ok (.aload_n 0, 1) := by decide +kernel
theorem dX12_init_5 : decode cX12_init 5 = .ok (.sipush 900, 3) := by decide +kernel
theorem dX12_init_8 : decode cX12_init 8 = .ok (.newarray .byte, 2) := by decide +kernel
theorem dX12_init_10 : decode cX12_init 10 = .ok (.putfield 16, 3) := by decide +kernel
theorem dX12_init_13 : decode cX12_init 13 = .ok (.aload_n 0, 1) := by decide +kernel
theorem dX12_init_14 : decode cX12_init 14 = .ok (.iconst (-1), 1) := by decide +kernel
theorem dX12_init_15 : decode cX12_init 15 = .ok (.putfield 10, 3) := by decide +kernel
theorem dX12_init_18 : decode cX12_init 18 = .ok (.aload_n 0, 1) := by decide +kernel
theorem dX12_init_19 : decode cX12_init 19 = .ok (.bipush 8, 2) := by decide +kernel
theorem dX12_init_21 : decode cX12_init 21 = .ok (.putfield 213, 3) := by decide +kernel
theorem dX12_init_24 : decode cX12_init 24 = .ok (.aload_n 0, 1) := by decide +kernel
theorem dX12_init_25 : decode cX12_init 25 = .ok (.iconst 4, 1) := by decide +kernel
theorem dX12_init_26 : decode cX12_init 26 = .ok (.putfield 216, 3) := by decide +kernel
theorem dX12_init_29 : decode cX12_init 29 = .ok (.aload_n 0, 1) := by decide +kernel
theorem dX12_init_30 : decode cX12_init 30 = .ok (.bipush 9, 2) := by decide +kernel
theorem dX12_init_32 : decode cX12_init 32 = .ok (.newarray .int, 2) := by decide +kernel
theorem dX12_init_34 : decode cX12_init 34 = .ok (.dup, 1) := by decide +kernel
theorem dX12_init_35 : decode cX12_init 35 = .ok (.iconst 0, 1) := by decide +kernel
theorem dX12_init_36 : decode cX12_init 36 = .ok (.sipush 200, 3) := by decide +kernel
theorem dX12_init_39 : decode cX12_init 39 = .ok (.iastore, 1) := by decide +kernel
theorem dX12_init_40 : decode cX12_init 40 = .ok (.dup, 1) := by decide +kernel
theorem dX12_init_41 : decode cX12_init 41 = .ok (.iconst 1, 1) := by decide +kernel
theorem dX12_init_42 : decode cX12_init 42 = .ok (.bipush 100, 2) := by decide +kernel
theorem dX12_init_44 : decode cX12_init 44 = .ok (.iastore, 1) := by decide +kernel
theorem dX12_init_45 : decode cX12_init 45 = .ok (.dup, 1) := by decide +kernel
theorem dX12_init_46 : decode cX12_init 46 = .ok (.iconst 2, 1) := by decide +kernel
theorem dX12_init_47 : decode cX12_init 47 = .ok (.bipush 10, 2) := by decide +kernel
theorem dX12_init_49 : decode cX12_init 49 = .ok (.iastore, 1) := by decide +kernel
theorem dX12_init_50 : decode cX12_init 50 = .ok (.dup, 1) := by decide +kernel
theorem dX12_init_51 : decode cX12_init 51 = .ok (.iconst 3, 1) := by decide +kernel
theorem dX12_init_52 : decode cX12_init 52 = .ok (.bipush 6, 2) := by decide +kernel
theorem dX12_init_54 : decode cX12_init 54 = .ok (.iastore, 1) := by decide +kernel
theorem dX12_init_55 : decode cX12_init 55 = .ok (.dup, 1) := by decide +kernel
theorem dX12_init_56 : decode cX12_init 56 = .ok (.iconst 4, 1) := by decide +kernel
theorem dX12_init_57 : decode cX12_init 57 = .ok (.sipush 200, 3) := by decide +kernel
theorem dX12_init_60 : decode cX12_init 60 = .ok (.iastore, 1) := by decide +kernel
theorem dX12_init_61 : decode cX12_init 61 = .ok (.dup, 1) := by decide +kernel
theorem dX12_init_62 : decode cX12_init 62 = .ok (.iconst 5, 1) := by decide +kernel
theorem dX12_init_63 : decode cX12_init 63 = .ok (.iconst 2, 1) := by decide +kernel
theorem dX12_init_64 : decode cX12_init 64 = .ok (.iastore, 1) := by decide +kernel
theorem dX12_init_65 : decode cX12_init 65 = .ok (.dup, 1) := by decide +kernel
theorem dX12_init_66 : decode cX12_init 66 = .ok (.bipush 6, 2) := by decide +kernel
theorem dX12_init_68 : decode cX12_init 68 = .ok (.bipush 60, 2) := by decide +kernel
theorem dX12_init_70 : decode cX12_init 70 = .ok (.iastore, 1) := by decide +kernel
theorem dX12_init_71 : decode cX12_init 71 = .ok (.dup, 1) := by decide +kernel
theorem dX12_init_72 : decode cX12_init 72 = .ok (.bipush 7, 2) := by decide +kernel
theorem dX12_init_74 : decode cX12_init 74 = .ok (.iconst 5, 1) := by decide +kernel
theorem dX12_init_75 : decode cX12_init 75 = .ok (.iastore, 1) := by decide +kernel
theorem dX12_init_76 : decode cX12_init 76 = .ok (.dup, 1) := by decide +kernel
theorem dX12_init_77 : decode cX12_init 77 = .ok (.bipush 8, 2) := by decide +kernel
theorem dX12_init_79 : decode cX12_init 79 = .ok (.iconst 0, 1) := by decide +kernel
theorem dX12_init_80 : decode cX12_init 80 = .ok (.iastore, 1) := by decide +kernel
theorem dX12_init_81 : decode cX12_init 81 = .ok (.putfield 219, 3) := by decide +kernel
theorem dX12_init_84 : decode cX12_init 84 = .ok (.aload_n 0, 1) := by decide +kernel
theorem dX12_init_85 : decode cX12_init 85 = .ok (.bipush 9, 2) := by decide +kernel
theorem dX12_init_87 : decode cX12_init 87 = .ok (.newarray .int, 2) := by decide +kernel
theorem dX12_init_89 : decode cX12_init 89 = .ok (.putfield 171, 3) := by decide +kernel
theorem dX12_init_92 : decode cX12_init 92 = .ok (.aload_n 0, 1) := by decide +kernel
theorem dX12_init_93 : decode cX12_init 93 = .ok (.iconst 5, 1) := by decide +kernel
theorem dX12_init_94 : decode cX12_init 94 = .ok (.newarray .long, 2) := by decide +kernel
theorem dX12_init_96 : decode cX12_init 96 = .ok (.putfield 98, 3) := by decide +kernel
theorem dX12_init_99 : decode cX12_init 99 = .ok (.aload_n 0, 1) := by decide +kernel
theorem dX12_init_100 : decode cX12_init 100 = .ok (.iconst 4, 1) := by decide +kernel
theorem dX12_init_101 : decode cX12_init 101 = .ok (.newarray .long, 2) := by decide +kernel
theorem dX12_init_103 : decode cX12_init 103 = .ok (.putfield 126, 3) := by decide +kernel
theorem dX12_init_106 : decode cX12_init 106 = .ok (.aload_n 0, 1) := by decide +kernel
theorem dX12_init_107 : decode cX12_init 107 = .ok (.iconst 4, 1) := by decide +kernel
theorem dX12_init_108 : decode cX12_init 108 = .ok (.newarray .long, 2) := by decide +kernel
theorem dX12_init_110 : decode cX12_init 110 = .ok (.putfield 147, 3) := by decide +kernel
theorem dX12_init_113 : decode cX12_init 113 = .ok (.aload_n 0, 1) := by decide +kernel
theorem dX12_init_114 : decode cX12_init 114 = .ok (.iconst 5, 1) := by decide +kernel
theorem dX12_init_115 : decode cX12_init 115 = .ok (.newarray .int, 2) := by decide +kernel
theorem dX12_init_117 : decode cX12_init 117 = .ok (.putfield 222, 3) := by decide +kernel
theorem dX12_init_120 : decode cX12_init 120 = .ok (.aload_n 0, 1) := by decide +kernel
theorem dX12_init_121 : decode cX12_init 121 = .ok (.iconst 5, 1) := by decide +kernel
theorem dX12_init_122 : decode cX12_init 122 = .ok (.newarray .int, 2) := by decide +kernel
theorem dX12_init_124 : decode cX12_init 124 = .ok (.putfield 225, 3) := by decide +kernel
theorem dX12_init_127 : decode cX12_init 127 = .ok (.aload_n 0, 1) := by decide +kernel
theorem dX12_init_128 : decode cX12_init 128 = .ok (.iconst 5, 1) := by decide +kernel
theorem dX12_init_129 : decode cX12_init 129 = .ok (.newarray .int, 2) := by decide +kernel
theorem dX12_init_131 : decode cX12_init 131 = .ok (.putfield 228, 3) := by decide +kernel
theorem dX12_init_134 : decode cX12_init 134 = .ok (.aload_n 0, 1) := by decide +kernel
theorem dX12_init_135 : decode cX12_init 135 = .ok (.iconst 5, 1) := by decide +kernel
theorem dX12_init_136 : decode cX12_init 136 = .ok (.newarray .int, 2) := by decide +kernel
theorem dX12_init_138 : decode cX12_init 138 = .ok (.putfield 231, 3) := by decide +kernel
theorem dX12_init_141 : decode cX12_init 141 = .ok (.aload_n 0, 1) := by decide +kernel
theorem dX12_init_142 : decode cX12_init 142 = .ok (.bipush 25, 2) := by decide +kernel
theorem dX12_init_144 : decode cX12_init 144 = .ok (.newarray .int, 2) := by decide +kernel
theorem dX12_init_146 : decode cX12_init 146 = .ok (.putfield 234, 3) := by decide +kernel
theorem dX12_init_149 : decode cX12_init 149 = .ok (.aload_n 0, 1) := by decide +kernel
theorem dX12_init_150 : decode cX12_init 150 = .ok (.iconst 4, 1) := by decide +kernel
theorem dX12_init_151 : decode cX12_init 151 = .ok (.newarray .int, 2) := by decide +kernel
theorem dX12_init_153 : decode cX12_init 153 = .ok (.putfield 236, 3) := by decide +kernel
theorem dX12_init_156 : decode cX12_init 156 = .ok (.aload_n 0, 1) := by decide +kernel
theorem dX12_init_157 : decode cX12_init 157 = .ok (.iconst 4, 1) := by decide +kernel
theorem dX12_init_158 : decode cX12_init 158 = .ok (.newarray .int, 2) := by decide +kernel
theorem dX12_init_160 : decode cX12_init 160 = .ok (.putfield 239, 3) := by decide +kernel
theorem dX12_init_163 : decode cX12_init 163 = .ok (.aload_n 0, 1) := by decide +kernel
theorem dX12_init_164 : decode cX12_init 164 = .ok (.iconst 4, 1) := by decide +kernel
theorem dX12_init_165 : decode cX12_init 165 = .ok (.newarray .int, 2) := by decide +kernel
theorem dX12_init_167 : decode cX12_init 167 = .ok (.putfield 242, 3) := by decide +kernel
theorem dX12_init_170 : decode cX12_init 170 = .ok (.aload_n 0, 1) := by decide +kernel
theorem dX12_init_171 : decode cX12_init 171 = .ok (.iconst 4, 1) := by decide +kernel
theorem dX12_init_172 : decode cX12_init 172 = .ok (.newarray .int, 2) := by decide +kernel
theorem dX12_init_174 : decode cX12_init 174 = .ok (.putfield 245, 3) := by decide +kernel
theorem dX12_init_177 : decode cX12_init 177 = .ok (.aload_n 0, 1) := by decide +kernel
theorem dX12_init_178 : decode cX12_init 178 = .ok (.iconst 5, 1) := by decide +kernel
theorem dX12_init_179 : decode cX12_init 179 = .ok (.newarray .int, 2) := by decide +kernel
theorem dX12_init_181 : decode cX12_init 181 = .ok (.putfield 110, 3) := by decide +kernel
theorem dX12_init_184 : decode cX12_init 184 = .ok (.aload_n 0, 1) := by decide +kernel
theorem dX12_init_185 : decode cX12_init 185 = .ok (.iconst 5, 1) := by decide +kernel
theorem dX12_init_186 : decode cX12_init 186 = .ok (.newarray .int, 2) := by decide +kernel
theorem dX12_init_188 : decode cX12_init 188 = .ok (.putfield 114, 3) := by decide +kernel
theorem dX12_init_191 : decode cX12_init 191 = .ok (.aload_n 0, 1) := by decide +kernel
theorem dX12_init_192 : decode cX12_init 192 = .ok (.iconst 5, 1) := by decide +kernel
theorem dX12_init_193 : decode cX12_init 193 = .ok (.newarray .int, 2) := by decide +kernel
theorem dX12_init_195 : decode cX12_init 195 = .ok (.putfield 117, 3) := by decide +kernel
theorem dX12_init_198 : decode cX12_init 198 = .ok (.aload_n 0, 1) := by decide +kernel
theorem dX12_init_199 : decode cX12_init 199 = .ok (.iconst 5, 1) := by decide +kernel
theorem dX12_init_200 : decode cX12_init 200 = .ok (.newarray .int, 2) := by decide +kernel
theorem dX12_init_202 : decode cX12_init 202 = .ok (.putfield 120, 3) := by decide +kernel
theorem dX12_init_205 : decode cX12_init 205 = .ok (.aload_n 0, 1) := by decide +kernel
theorem dX12_init_206 : decode cX12_init 206 = .ok (.bipush 25, 2) := by decide +kernel
theorem dX12_init_208 : decode cX12_init 208 = .ok (.newarray .int, 2) := by decide +kernel
theorem dX12_init_210 : decode cX12_init 210 = .ok (.putfield 141, 3) := by decide +kernel
theorem dX12_init_213 : decode cX12_init 213 = .ok (.aload_n 0, 1) := by decide +kernel
theorem dX12_init_214 : decode cX12_init 214 = .ok (.iconst 4, 1) := by decide +kernel
theorem dX12_init_215 : decode cX12_init 215 = .ok (.newarray .int, 2) := by decide +kernel
theorem dX12_init_217 : decode cX12_init 217 = .ok (.putfield 129, 3) := by decide +kernel
theorem dX12_init_220 : decode cX12_init 220 = .ok (.aload_n 0, 1) := by decide +kernel
theorem dX12_init_221 : decode cX12_init 221 = .ok (.iconst 4, 1) := by decide +kernel
theorem dX12_init_222 : decode cX12_init 222 = .ok (.newarray .int, 2) := by decide +kernel
theorem dX12_init_224 : decode cX12_init 224 = .ok (.putfield 132, 3) := by decide +kernel
theorem dX12_init_227 : decode cX12_init 227 = .ok (.aload_n 0, 1) := by decide +kernel
theorem dX12_init_228 : decode cX12_init 228 = .ok (.iconst 4, 1) := by decide +kernel
theorem dX12_init_229 : decode cX12_init 229 = .ok (.newarray .int, 2) := by decide +kernel
theorem dX12_init_231 : decode cX12_init 231 = .ok (.putfield 135, 3) := by decide +kernel
theorem dX12_init_234 : decode cX12_init 234 = .ok (.aload_n 0, 1) := by decide +kernel
theorem dX12_init_235 : decode cX12_init 235 = .ok (.iconst 4, 1) := by decide +kernel
theorem dX12_init_236 : decode cX12_init 236 = .ok (.newarray .int, 2) := by decide +kernel
theorem dX12_init_238 : decode cX12_init 238 = .ok (.putfield 150, 3) := by decide +kernel
theorem dX12_init_241 : decode cX12_init 241 = .ok (.aload_n 0, 1) := by decide +kernel
theorem dX12_init_242 : decode cX12_init 242 = .ok (.lconst 1, 1) := by decide +kernel
theorem dX12_init_243 : decode cX12_init 243 = .ok (.putfield 248, 3) := by decide +kernel
theorem dX12_init_246 : decode cX12_init 246 = .ok (.aload_n 0, 1) := by decide +kernel
theorem dX12_init_247 : decode cX12_init 247 = .ok (.iconst 3, 1) := by decide +kernel
theorem dX12_init_248 : decode cX12_init 248 = .ok (.newarray .int, 2) := by decide +kernel
theorem dX12_init_250 : decode cX12_init 250 = .ok (.putfield 252, 3) := by decide +kernel
theorem dX12_init_253 : decode cX12_init 253 = .ok (.aload_n 0, 1) := by decide +kernel
theorem dX12_init_254 : decode cX12_init 254 = .ok (.iconst 3, 1) := by decide +kernel
theorem dX12_init_255 : decode cX12_init 255 = .ok (.newarray .int, 2) := by decide +kernel
theorem dX12_init_257 : decode cX12_init 257 = .ok (.putfield 255, 3) := by decide +kernel
theorem dX12_init_260 : decode cX12_init 260 = .ok (.aload_n 0, 1) := by decide +kernel
theorem dX12_init_261 : decode cX12_init 261 = .ok (.iconst 3, 1) := by decide +kernel
theorem dX12_init_262 : decode cX12_init 262 = .ok (.newarray .int, 2) := by decide +kernel
theorem dX12_init_264 : decode cX12_init 264 = .ok (.putfield 258, 3) := by decide +kernel
theorem dX12_init_267 : decode cX12_init 267 = .ok (.aload_n 0, 1) := by decide +kernel
theorem dX12_init_268 : decode cX12_init 268 = .ok (.iconst 3, 1) := by decide +kernel
theorem dX12_init_269 : decode cX12_init 269 = .ok (.newarray .int, 2) := by decide +kernel
theorem dX12_init_271 : decode cX12_init 271 = .ok (.putfield 261, 3) := by decide +kernel
theorem dX12_init_274 : decode cX12_init 274 = .ok (.aload_n 0, 1) := by decide +kernel
theorem dX12_init_275 : decode cX12_init 275 = .ok (.iconst 3, 1) := by decide +kernel
theorem dX12_init_276 : decode cX12_init 276 = .ok (.newarray .int, 2) := by decide +kernel
theorem dX12_init_278 : decode cX12_init 278 = .ok (.putfield 264, 3) := by decide +kernel
theorem dX12_init_281 : decode cX12_init 281 = .ok (.aload_n 0, 1) := by decide +kernel
theorem dX12_init_282 : decode cX12_init 282 = .ok (.iconst 5, 1) := by decide +kernel
theorem dX12_init_283 : decode cX12_init 283 = .ok (.newarray .int, 2) := by decide +kernel
theorem dX12_init_285 : decode cX12_init 285 = .ok (.putfield 267, 3) := by decide +kernel
theorem dX12_init_288 : decode cX12_init 288 = .ok (.aload_n 0, 1) := by decide +kernel
theorem dX12_init_289 : decode cX12_init 289 = .ok (.iconst 4, 1) := by decide +kernel
theorem dX12_init_290 : decode cX12_init 290 = .ok (.newarray .int, 2) := by decide +kernel
theorem dX12_init_292 : decode cX12_init 292 = .ok (.putfield 269, 3) := by decide +kernel
theorem dX12_init_295 : decode cX12_init 295 = .ok (.aload_n 0, 1) := by decide +kernel
theorem dX12_init_296 : decode cX12_init 296 = .ok (.bipush 52, 2) := by decide +kernel
theorem dX12_init_298 : decode cX12_init 298 = .ok (.newarray .int, 2) := by decide +kernel
theorem dX12_init_300 : decode cX12_init 300 = .ok (.putfield 272, 3) := by decide +kernel
theorem dX12_init_303 : decode cX12_init 303 = .ok (.aload_n 0, 1) := by decide +kernel
theorem dX12_init_304 : decode cX12_init 304 = .ok (.iconst 2, 1) := by decide +kernel
theorem dX12_init_305 : decode cX12_init 305 = .ok (.newarray .long, 2) := by decide +kernel
theorem dX12_init_307 : decode cX12_init 307 = .ok (.putfield 275, 3) := by decide +kernel
theorem dX12_init_310 : decode cX12_init 310 = .ok (.aload_n 0, 1) := by decide +kernel
theorem dX12_init_311 : decode cX12_init 311 = .ok (.iconst 2, 1) := by decide +kernel
theorem dX12_init_312 : decode cX12_init 312 = .ok (.newarray .boolean, 2) := by decide +kernel
theorem dX12_init_314 : decode cX12_init 314 = .ok (.putfield 278, 3) := by decide +kernel
theorem dX12_init_317 : decode cX12_init 317 = .ok (.aload_n 0, 1) := by decide +kernel
theorem dX12_init_318 : decode cX12_init 318 = .ok (.iconst 5, 1) := by decide +kernel
theorem dX12_init_319 : decode cX12_init 319 = .ok (.newarray .int, 2) := by decide +kernel
theorem dX12_init_321 : decode cX12_init 321 = .ok (.putfield 282, 3) := by decide +kernel
theorem dX12_init_324 : decode cX12_init 324 = .ok (.aload_n 0, 1) := by decide +kernel
theorem dX12_init_325 : decode cX12_init 325 = .ok (.iconst 5, 1) := by decide +kernel
theorem dX12_init_326 : decode cX12_init 326 = .ok (.newarray .int, 2) := by decide +kernel
theorem dX12_init_328 : decode cX12_init 328 = .ok (.putfield 285, 3) := by decide +kernel
theorem dX12_init_331 : decode cX12_init 331 = .ok (.aload_n 0, 1) := by decide +kernel
theorem dX12_init_332 : decode cX12_init 332 = .ok (.bipush 10, 2) := by decide +kernel
theorem dX12_init_334 : decode cX12_init 334 = .ok (.newarray .int, 2) := by decide +kernel
theorem dX12_init_336 : decode cX12_init 336 = .ok (.putfield 288, 3) := by decide +kernel
theorem dX12_init_339 : decode cX12_init 339 = .ok (.aload_n 0, 1) := by decide +kernel
theorem dX12_init_340 : decode cX12_init 340 = .ok (.bipush 10, 2) := by decide +kernel
theorem dX12_init_342 : decode cX12_init 342 = .ok (.newarray .int, 2) := by decide +kernel
theorem dX12_init_344 : decode cX12_init 344 = .ok (.putfield 291, 3) := by decide +kernel
theorem dX12_init_347 : decode cX12_init 347 = .ok (.aload_n 0, 1) := by decide +kernel
theorem dX12_init_348 : decode cX12_init 348 = .ok (.iconst 5, 1) := by decide +kernel
theorem dX12_init_349 : decode cX12_init 349 = .ok (.newarray .int, 2) := by decide +kernel
theorem dX12_init_351 : decode cX12_init 351 = .ok (.putfield 294, 3) := by decide +kernel
theorem dX12_init_354 : decode cX12_init 354 = .ok (.aload_n 0, 1) := by decide +kernel
theorem dX12_init_355 : decode cX12_init 355 = .ok (.bipush 15, 2) := by decide +kernel
theorem dX12_init_357 : decode cX12_init 357 = .ok (.newarray .boolean, 2) := by decide +kernel
theorem dX12_init_359 : decode cX12_init 359 = .ok (.putfield 297, 3) := by decide +kernel
theorem dX12_init_362 : decode cX12_init 362 = .ok (.aload_n 0, 1) := by decide +kernel
theorem dX12_init_363 : decode cX12_init 363 = .ok (.bipush 10, 2) := by decide +kernel
theorem dX12_init_365 : decode cX12_init 365 = .ok (.newarray .int, 2) := by decide +kernel
theorem dX12_init_367 : decode cX12_init 367 = .ok (.putfield 300, 3) := by decide +kernel
theorem dX12_init_370 : decode cX12_init 370 = .ok (.aload_n 0, 1) := by decide +kernel
theorem dX12_init_371 : decode cX12_init 371 = .ok (.bipush 16, 2) := by decide +kernel
theorem dX12_init_373 : decode cX12_init 373 = .ok (.newarray .int, 2) := by decide +kernel
theorem dX12_init_375 : decode cX12_init 375 = .ok (.putfield 303, 3) := by decide +kernel
theorem dX12_init_378 : decode cX12_init 378 = .ok (.aload_n 0, 1) := by decide +kernel
theorem dX12_init_379 : decode cX12_init 379 = .ok (.bipush 16, 2) := by decide +kernel
theorem dX12_init_381 : decode cX12_init 381 = .ok (.newarray .int, 2) := by decide +kernel
theorem dX12_init_383 : decode cX12_init 383 = .ok (.putfield 306, 3) := by decide +kernel
theorem dX12_init_386 : decode cX12_init 386 = .ok (.aload_n 0, 1) := by decide +kernel
theorem dX12_init_387 : decode cX12_init 387 = .ok (.bipush 16, 2) := by decide +kernel
theorem dX12_init_389 : decode cX12_init 389 = .ok (.newarray .int, 2) := by decide +kernel
theorem dX12_init_391 : decode cX12_init 391 = .ok (.putfield 309, 3) := by decide +kernel
theorem dX12_init_394 : decode cX12_init 394 = .ok (.aload_n 0, 1) := by decide +kernel
theorem dX12_init_395 : decode cX12_init 395 = .ok (.bipush 16, 2) := by decide +kernel
theorem dX12_init_397 : decode cX12_init 397 = .ok (.newarray .int, 2) := by decide +kernel
theorem dX12_init_399 : decode cX12_init 399 = .ok (.putfield 312, 3) := by decide +kernel
theorem dX12_init_402 : decode cX12_init 402 = .ok (.aload_n 0, 1) := by decide +kernel
theorem dX12_init_403 : decode cX12_init 403 = .ok (.bipush 20, 2) := by decide +kernel
theorem dX12_init_405 : decode cX12_init 405 = .ok (.newarray .int, 2) := by decide +kernel
theorem dX12_init_407 : decode cX12_init 407 = .ok (.putfield 315, 3) := by decide +kernel
theorem dX12_init_410 : decode cX12_init 410 = .ok (.aload_n 0, 1) := by decide +kernel
theorem dX12_init_411 : decode cX12_init 411 = .ok (.bipush 20, 2) := by decide +kernel
theorem dX12_init_413 : decode cX12_init 413 = .ok (.newarray .int, 2) := by decide +kernel
theorem dX12_init_415 : decode cX12_init 415 = .ok (.putfield 318, 3) := by decide +kernel
theorem dX12_init_418 : decode cX12_init 418 = .ok (.aload_n 0, 1) := by decide +kernel
theorem dX12_init_419 : decode cX12_init 419 = .ok (.bipush 20, 2) := by decide +kernel
theorem dX12_init_421 : decode cX12_init 421 = .ok (.newarray .int, 2) := by decide +kernel
theorem dX12_init_423 : decode cX12_init 423 = .ok (.putfield 321, 3) := by decide +kernel
theorem dX12_init_426 : decode cX12_init 426 = .ok (.aload_n 0, 1) := by decide +kernel
theorem dX12_init_427 : decode cX12_init 427 = .ok (.bipush 8, 2) := by decide +kernel
theorem dX12_init_429 : decode cX12_init 429 = .ok (.newarray .int, 2) := by decide +kernel
theorem dX12_init_431 : decode cX12_init 431 = .ok (.putfield 324, 3) := by decide +kernel
theorem dX12_init_434 : decode cX12_init 434 = .ok (.aload_n 0, 1) := by decide +kernel
theorem dX12_init_435 : decode cX12_init 435 = .ok (.iconst 5, 1) := by decide +kernel
theorem dX12_init_436 : decode cX12_init 436 = .ok (.newarray .int, 2) := by decide +kernel
theorem dX12_init_438 : decode cX12_init 438 = .ok (.putfield 327, 3) := by decide +kernel
theorem dX12_init_441 : decode cX12_init 441 = .ok (.aload_n 0, 1) := by decide +kernel
theorem dX12_init_442 : decode cX12_init 442 = .ok (.iconst 5, 1) := by decide +kernel
theorem dX12_init_443 : decode cX12_init 443 = .ok (.newarray .int, 2) := by decide +kernel
theorem dX12_init_445 : decode cX12_init 445 = .ok (.putfield 330, 3) := by decide +kernel
theorem dX12_init_448 : decode cX12_init 448 = .ok (.aload_n 0, 1) := by decide +kernel
theorem dX12_init_449 : decode cX12_init 449 = .ok (.sipush 256, 3) := by decide +kernel
theorem dX12_init_452 : decode cX12_init 452 = .ok (.newarray .int, 2) := by decide +kernel
theorem dX12_init_454 : decode cX12_init 454 = .ok (.putfield 333, 3) := by decide +kernel
theorem dX12_init_457 : decode cX12_init 457 = .ok (.aload_n 0, 1) := by decide +kernel
theorem dX12_init_458 : decode cX12_init 458 = .ok (.bipush 8, 2) := by decide +kernel
theorem dX12_init_460 : decode cX12_init 460 = .ok (.newarray .int, 2) := by decide +kernel
theorem dX12_init_462 : decode cX12_init 462 = .ok (.putfield 336, 3) := by decide +kernel
theorem dX12_init_465 : decode cX12_init 465 = .ok (.aload_n 0, 1) := by decide +kernel
theorem dX12_init_466 : decode cX12_init 466 = .ok (.bipush 8, 2) := by decide +kernel
theorem dX12_init_468 : decode cX12_init 468 = .ok (.newarray .int, 2) := by decide +kernel
theorem dX12_init_470 : decode cX12_init 470 = .ok (.putfield 339, 3) := by decide +kernel
theorem dX12_init_473 : decode cX12_init 473 = .ok (.aload_n 0, 1) := by decide +kernel
theorem dX12_init_474 : decode cX12_init 474 = .ok (.bipush 30, 2) := by decide +kernel
theorem dX12_init_476 : decode cX12_init 476 = .ok (.newarray .int, 2) := by decide +kernel
theorem dX12_init_478 : decode cX12_init 478 = .ok (.putfield 342, 3) := by decide +kernel
theorem dX12_init_481 : decode cX12_init 481 = .ok (.return_, 1) := by decide +kernel
theorem dX12_feed_0 : decode cX12_feed 0 = .ok (.aload_n 0, 1) := by decide +kernel
theorem dX12_feed_1 : decode cX12_feed 1 = .ok (.getfield 345, 3) := by decide +kernel
theorem dX12_feed_4 : decode cX12_feed 4 = .ok (.bipush 20, 2) := by decide +kernel
theorem dX12_feed_6 : decode cX12_feed 6 = .ok (.iadd, 1) := by decide +kernel
theorem dX12_feed_7 : decode cX12_feed 7 = .ok (.sipush 900, 3) := by decide +kernel
theorem dX12_feed_10 : decode cX12_feed 10 = .ok (.if_icmp .le 6, 3) := by decide +kernel
theorem dX12_feed_13 : decode cX12_feed 13 = .ok (.bipush (-3), 2) := by decide +kernel
theorem dX12_feed_15 : decode cX12_feed 15 = .ok (.ireturn, 1) := by decide +kernel
theorem dX12_feed_16 : decode cX12_feed 16 = .ok (.aload_n 0, 1) := by decide +kernel
theorem dX12_feed_17 : decode cX12_feed 17 = .ok (.iload_n 1, 1) := by decide +kernel
theorem dX12_feed_18 : decode cX12_feed 18 = .ok (.invokevirtual 348, 3) := by decide +kernel
theorem dX12_feed_21 : decode cX12_feed 21 = .ok (.aload_n 0, 1) := by decide +kernel
theorem dX12_feed_22 : decode cX12_feed 22 = .ok (.iload_n 2, 1) := by decide +kernel
theorem dX12_feed_23 : decode cX12_feed 23 = .ok (.invokevirtual 348, 3) := by decide +kernel
theorem dX12_feed_26 : decode cX12_feed 26 = .ok (.aload_n 0, 1) := by decide +kernel
theorem dX12_feed_27 : decode cX12_feed 27 = .ok (.iload_n 3, 1) := by decide +kernel
theorem dX12_feed_28 : decode cX12_feed 28 = .ok (.invokevirtual 348, 3) := by decide +kernel
theorem dX12_feed_31 : decode cX12_feed 31 = .ok (.aload_n 0, 1) := by decide +kernel
theorem dX12_feed_32 : decode cX12_feed 32 = .ok (.iload 4, 2) := by decide +kernel
theorem dX12_feed_34 : decode cX12_feed 34 = .ok (.invokevirtual 348, 3) := by decide +kernel
theorem dX12_feed_37 : decode cX12_feed 37 = .ok (.aload_n 0, 1) := by decide +kernel
theorem dX12_feed_38 : decode cX12_feed 38 = .ok (.iload 5, 2) := by decide +kernel
theorem dX12_feed_40 : decode cX12_feed 40 = .ok (.invokevirtual 348, 3) := by decide +kernel
theorem dX12_feed_43 : decode cX12_feed 43 = .ok (.aload_n 0, 1) := by decide +kernel
theorem dX12_feed_44 : decode cX12_feed 44 = .ok (.getfield 345, 3) := by decide +kernel
theorem dX12_feed_47 : decode cX12_feed 47 = .ok (.ireturn, 1) := by decide +kernel
theorem dX12_putFour_0 : decode cX12_putFour 0 = .ok (.bipush 24, 2) := by decide +kernel
theorem dX12_putFour_2 : decode cX12_putFour 2 = .ok (.istore_n 2, 1) := by decide +kernel
theorem dX12_putFour_3 : decode cX12_putFour 3 = .ok (.iload_n 2, 1) := by decide +kernel
theorem dX12_putFour_4 : decode cX12_putFour 4 = .ok (.ifCond .lt 32, 3) := by decide +kernel
theorem dX12_putFour_7 : decode cX12_putFour 7 = .ok (.aload_n 0, 1) := by decide +kernel
theorem dX12_putFour_8 : decode cX12_putFour 8 = .ok (.getfield 16, 3) := by decide +kernel
theorem dX12_putFour_11 : decode cX12_putFour 11 = .ok (.aload_n 0, 1) := by decide +kernel
theorem dX12_putFour_12 : decode cX12_putFour 12 = .ok (.getfield 345, 3) := by decide +kernel
theorem dX12_putFour_15 : decode cX12_putFour 15 = .ok (.iload_n 1, 1) := by decide +kernel
theorem dX12_putFour_16 : decode cX12_putFour 16 = .ok (.iload_n 2, 1) := by decide +kernel
theorem dX12_putFour_17 : decode cX12_putFour 17 = .ok (.ishr, 1) := by decide +kernel
theorem dX12_putFour_18 : decode cX12_putFour 18 = .ok (.i2b, 1) := by decide +kernel
theorem dX12_putFour_19 : decode cX12_putFour 19 = .ok (.bastore, 1) := by decide +kernel
theorem dX12_putFour_20 : decode cX12_putFour 20 = .ok (.aload_n 0, 1) := by decide +kernel
theorem dX12_putFour_21 : decode cX12_putFour 21 = .ok (.dup, 1) := by decide +kernel
theorem dX12_putFour_22 : decode cX12_putFour 22 = .ok (.getfield 345, 3) := by decide +kernel
theorem dX12_putFour_25 : decode cX12_putFour 25 = .ok (.iconst 1, 1) := by decide +kernel
theorem dX12_putFour_26 : decode cX12_putFour 26 = .ok (.iadd, 1) := by decide +kernel
theorem dX12_putFour_27 : decode cX12_putFour 27 = .ok (.putfield 345, 3) := by decide +kernel
theorem dX12_putFour_30 : decode cX12_putFour 30 = .ok (.iinc 2 (-8), 3) := by decide +kernel
theorem dX12_putFour_33 : decode cX12_putFour 33 = .ok (.goto (-30), 3) := by decide +kernel
theorem dX12_putFour_36 : decode cX12_putFour 36 = .ok (.return_, 1) := by decide +kernel
theorem dX12_end_0 : decode cX12_end 0 = .ok (.iload_n 1, 1) := by decide +kernel
theorem dX12_end_1 : decode cX12_end 1 = .ok (.i2l, 1) := by decide +kernel
theorem dX12_end_2 : decode cX12_end 2 = .ok (.lconst 0, 1) := by decide +kernel
theorem dX12_end_3 : decode cX12_end 3 = .ok (.aload_n 0, 1) := by decide +kernel
theorem dX12_end_4 : decode cX12_end 4 = .ok (.getfield 345, 3) := by decide +kernel
theorem dX12_end_7 : decode cX12_end 7 = .ok (.i2l, 1) := by decide +kernel
theorem dX12_end_8 : decode cX12_end 8 = .ok (.invokestatic 52, 3) := by decide +kernel
theorem dX12_end_11 : decode cX12_end 11 = .ok (.ifCond .ne 5, 3) := by decide +kernel
theorem dX12_end_14 : decode cX12_end 14 = .ok (.iconst (-1), 1) := by decide +kernel
theorem dX12_end_15 : decode cX12_end 15 = .ok (.ireturn, 1) := by decide +kernel
theorem dX12_end_16 : decode cX12_end 16 = .ok (.aload_n 0, 1) := by decide +kernel
theorem dX12_end_17 : decode cX12_end 17 = .ok (.iload_n 1, 1) := by decide +kernel
theorem dX12_end_18 : decode cX12_end 18 = .ok (.putfield 345, 3) := by decide +kernel
theorem dX12_end_21 : decode cX12_end 21 = .ok (.iload_n 1, 1) := by decide +kernel
theorem dX12_end_22 : decode cX12_end 22 = .ok (.ireturn, 1) := by decide +kernel
theorem dX12_camp_0 : decode cX12_camp 0 = .ok (.aload_n 0, 1) := by decide +kernel
theorem dX12_camp_1 : decode cX12_camp 1 = .ok (.aload_n 0, 1) := by decide +kernel
theorem dX12_camp_2 : decode cX12_camp 2 = .ok (.getfield 345, 3) := by decide +kernel
theorem dX12_camp_5 : decode cX12_camp 5 = .ok (.putfield 13, 3) := by decide +kernel
theorem dX12_camp_8 : decode cX12_camp 8 = .ok (.aload_n 0, 1) := by decide +kernel
theorem dX12_camp_9 : decode cX12_camp 9 = .ok (.iconst 0, 1) := by decide +kernel
theorem dX12_camp_10 : decode cX12_camp 10 = .ok (.putfield 345, 3) := by decide +kernel
theorem dX12_camp_13 : decode cX12_camp 13 = .ok (.aload_n 0, 1) := by decide +kernel
theorem dX12_camp_14 : decode cX12_camp 14 = .ok (.iconst 0, 1) := by decide +kernel
theorem dX12_camp_15 : decode cX12_camp 15 = .ok (.putfield 20, 3) := by decide +kernel
theorem dX12_camp_18 : decode cX12_camp 18 = .ok (.aload_n 0, 1) := by decide +kernel
theorem dX12_camp_19 : decode cX12_camp 19 = .ok (.iconst 0, 1) := by decide +kernel
theorem dX12_camp_20 : decode cX12_camp 20 = .ok (.putfield 3, 3) := by decide +kernel
theorem dX12_camp_23 : decode cX12_camp 23 = .ok (.aload_n 0, 1) := by decide +kernel
theorem dX12_camp_24 : decode cX12_camp 24 = .ok (.iconst (-1), 1) := by decide +kernel
theorem dX12_camp_25 : decode cX12_camp 25 = .ok (.putfield 10, 3) := by decide +kernel
theorem dX12_camp_28 : decode cX12_camp 28 = .ok (.aload_n 0, 1) := by decide +kernel
theorem dX12_camp_29 : decode cX12_camp 29 = .ok (.invokevirtual 59, 3) := by decide +kernel
theorem dX12_camp_32 : decode cX12_camp 32 = .ok (.aload_n 0, 1) := by decide +kernel
theorem dX12_camp_33 : decode cX12_camp 33 = .ok (.invokevirtual 352, 3) := by decide +kernel
theorem dX12_camp_36 : decode cX12_camp 36 = .ok (.ifCond .ne 5, 3) := by decide +kernel
theorem dX12_camp_39 : decode cX12_camp 39 = .ok (.iconst (-1), 1) := by decide +kernel
theorem dX12_camp_40 : decode cX12_camp 40 = .ok (.ireturn, 1) := by decide +kernel
theorem dX12_camp_41 : decode cX12_camp 41 = .ok (.aload_n 0, 1) := by decide +kernel
theorem dX12_camp_42 : decode cX12_camp 42 = .ok (.aload_n 0, 1) := by decide +kernel
theorem dX12_camp_43 : decode cX12_camp 43 = .ok (.getfield 95, 3) := by decide +kernel
theorem dX12_camp_46 : decode cX12_camp 46 = .ok (.putfield 355, 3) := by decide +kernel
theorem dX12_camp_49 : decode cX12_camp 49 = .ok (.aload_n 0, 1) := by decide +kernel
theorem dX12_camp_50 : decode cX12_camp 50 = .ok (.aload_n 0, 1) := by decide +kernel
theorem dX12_camp_51 : decode cX12_camp 51 = .ok (.getfield 123, 3) := by decide +kernel
theorem dX12_camp_54 : decode cX12_camp 54 = .ok (.putfield 358, 3) := by decide +kernel
theorem dX12_camp_57 : decode cX12_camp 57 = .ok (.aload_n 0, 1) := by decide +kernel
theorem dX12_camp_58 : decode cX12_camp 58 = .ok (.aload_n 0, 1) := by decide +kernel
theorem dX12_camp_59 : decode cX12_camp 59 = .ok (.getfield 144, 3) := by decide +kernel
theorem dX12_camp_62 : decode cX12_camp 62 = .ok (.putfield 361, 3) := by decide +kernel
theorem dX12_camp_65 : decode cX12_camp 65 = .ok (.aload_n 0, 1) := by decide +kernel
theorem dX12_camp_66 : decode cX12_camp 66 = .ok (.aload_n 0, 1) := by decide +kernel
theorem dX12_camp_67 : decode cX12_camp 67 = .ok (.getfield 159, 3) := by decide +kernel
theorem dX12_camp_70 : decode cX12_camp 70 = .ok (.putfield 213, 3) := by decide +kernel
theorem dX12_camp_73 : decode cX12_camp 73 = .ok (.aload_n 0, 1) := by decide +kernel
theorem dX12_camp_74 : decode cX12_camp 74 = .ok (.aload_n 0, 1) := by decide +kernel
theorem dX12_camp_75 : decode cX12_camp 75 = .ok (.getfield 162, 3) := by decide +kernel
theorem dX12_camp_78 : decode cX12_camp 78 = .ok (.putfield 216, 3) := by decide +kernel
theorem dX12_camp_81 : decode cX12_camp 81 = .ok (.aload_n 0, 1) := by decide +kernel
theorem dX12_camp_82 : decode cX12_camp 82 = .ok (.aload_n 0, 1) := by decide +kernel
theorem dX12_camp_83 : decode cX12_camp 83 = .ok (.getfield 174, 3) := by decide +kernel
theorem dX12_camp_86 : decode cX12_camp 86 = .ok (.putfield 364, 3) := by decide +kernel
theorem dX12_camp_89 : decode cX12_camp 89 = .ok (.iconst 0, 1) := by decide +kernel
theorem dX12_camp_90 : decode cX12_camp 90 = .ok (.istore_n 1, 1) := by decide +kernel
theorem dX12_camp_91 : decode cX12_camp 91 = .ok (.iload_n 1, 1) := by decide +kernel
theorem dX12_camp_92 : decode cX12_camp 92 = .ok (.bipush 9, 2) := by decide +kernel
theorem dX12_camp_94 : decode cX12_camp 94 = .ok (.if_icmp .ge 21, 3) := by decide +kernel
theorem dX12_camp_97 : decode cX12_camp 97 = .ok (.aload_n 0, 1) := by decide +kernel
theorem dX12_camp_98 : decode cX12_camp 98 = .ok (.getfield 219, 3) := by decide +kernel
theorem dX12_camp_101 : decode cX12_camp 101 = .ok (.iload_n 1, 1) := by decide +kernel
theorem dX12_camp_102 : decode cX12_camp 102 = .ok (.aload_n 0, 1) := by decide +kernel
theorem dX12_camp_103 : decode cX12_camp 103 = .ok (.getfield 171, 3) := by decide +kernel
theorem dX12_camp_106 : decode cX12_camp 106 = .ok (.iload_n 1, 1) := by decide +kernel
theorem dX12_camp_107 : decode cX12_camp 107 = .ok (.iaload, 1) := by decide +kernel
theorem dX12_camp_108 : decode cX12_camp 108 = .ok (.iastore, 1) := by decide +kernel
theorem dX12_camp_109 : decode cX12_camp 109 = .ok (.iinc 1 1, 3) := by decide +kernel
theorem dX12_camp_112 : decode cX12_camp 112 = .ok (.goto (-21), 3) := by decide +kernel
theorem dX12_camp_115 : decode cX12_camp 115 = .ok (.iconst 0, 1) := by decide +kernel
theorem dX12_camp_116 : decode cX12_camp 116 = .ok (.istore_n 1, 1) := by decide +kernel
theorem dX12_camp_117 : decode cX12_camp 117 = .ok (.iload_n 1, 1) := by decide +kernel
theorem dX12_camp_118 : decode cX12_camp 118 = .ok (.bipush 25, 2) := by decide +kernel
theorem dX12_camp_120 : decode cX12_camp 120 = .ok (.if_icmp .ge 21, 3) := by decide +kernel
theorem dX12_camp_123 : decode cX12_camp 123 = .ok (.aload_n 0, 1) := by decide +kernel
theorem dX12_camp_124 : decode cX12_camp 124 = .ok (.getfield 234, 3) := by decide +kernel
theorem dX12_camp_127 : decode cX12_camp 127 = .ok (.iload_n 1, 1) := by decide +kernel
theorem dX12_camp_128 : decode cX12_camp 128 = .ok (.aload_n 0, 1) := by decide +kernel
theorem dX12_camp_129 : decode cX12_camp 129 = .ok (.getfield 141, 3) := by decide +kernel
theorem dX12_camp_132 : decode cX12_camp 132 = .ok (.iload_n 1, 1) := by decide +kernel
theorem dX12_camp_133 : decode cX12_camp 133 = .ok (.iaload, 1) := by decide +kernel
theorem dX12_camp_134 : decode cX12_camp 134 = .ok (.iastore, 1) := by decide +kernel
theorem dX12_camp_135 : decode cX12_camp 135 = .ok (.iinc 1 1, 3) := by decide +kernel
theorem dX12_camp_138 : decode cX12_camp 138 = .ok (.goto (-21), 3) := by decide +kernel
theorem dX12_camp_141 : decode cX12_camp 141 = .ok (.iconst 0, 1) := by decide +kernel
theorem dX12_camp_142 : decode cX12_camp 142 = .ok (.istore_n 1, 1) := by decide +kernel
theorem dX12_camp_143 : decode cX12_camp 143 = .ok (.iload_n 1, 1) := by decide +kernel
theorem dX12_camp_144 : decode cX12_camp 144 = .ok (.aload_n 0, 1) := by decide +kernel
theorem dX12_camp_145 : decode cX12_camp 145 = .ok (.getfield 355, 3) := by decide +kernel
theorem dX12_camp_148 : decode cX12_camp 148 = .ok (.if_icmp .ge 64, 3) := by decide +kernel
theorem dX12_camp_151 : decode cX12_camp 151 = .ok (.aload_n 0, 1) := by decide +kernel
theorem dX12_camp_152 : decode cX12_camp 152 = .ok (.getfield 222, 3) := by decide +kernel
theorem dX12_camp_155 : decode cX12_camp 155 = .ok (.iload_n 1, 1) := by decide +kernel
theorem dX12_camp_156 : decode cX12_camp 156 = .ok (.aload_n 0, 1) := by decide +kernel
theorem dX12_camp_157 : decode cX12_camp 157 = .ok (.getfield 110, 3) := by decide +kernel
theorem dX12_camp_160 : decode cX12_camp 160 = .ok (.iload_n 1, 1) := by decide +kernel
theorem dX12_camp_161 : decode cX12_camp 161 = .ok (.iaload, 1) := by decide +kernel
theorem dX12_camp_162 : decode cX12_camp 162 = .ok (.iastore, 1) := by decide +kernel
theorem dX12_camp_163 : decode cX12_camp 163 = .ok (.aload_n 0, 1) := by decide +kernel
theorem dX12_camp_164 : decode cX12_camp 164 = .ok (.getfield 225, 3) := by decide +kernel
theorem dX12_camp_167 : decode cX12_camp 167 = .ok (.iload_n 1, 1) := by decide +kernel
theorem dX12_camp_168 : decode cX12_camp 168 = .ok (.aload_n 0, 1) := by decide +kernel
theorem dX12_camp_169 : decode cX12_camp 169 = .ok (.getfield 114, 3) := by decide +kernel
theorem dX12_camp_172 : decode cX12_camp 172 = .ok (.iload_n 1, 1) := by decide +kernel
theorem dX12_camp_173 : decode cX12_camp 173 = .ok (.iaload, 1) := by decide +kernel
theorem dX12_camp_174 : decode cX12_camp 174 = .ok (.iastore, 1) := by decide +kernel
theorem dX12_camp_175 : decode cX12_camp 175 = .ok (.aload_n 0, 1) := by decide +kernel
theorem dX12_camp_176 : decode cX12_camp 176 = .ok (.getfield 228, 3) := by decide +kernel
theorem dX12_camp_179 : decode cX12_camp 179 = .ok (.iload_n 1, 1) := by decide +kernel
theorem dX12_camp_180 : decode cX12_camp 180 = .ok (.aload_n 0, 1) := by decide +kernel
theorem dX12_camp_181 : decode cX12_camp 181 = .ok (.getfield 117, 3) := by decide +kernel
theorem dX12_camp_184 : decode cX12_camp 184 = .ok (.iload_n 1, 1) := by decide +kernel
theorem dX12_camp_185 : decode cX12_camp 185 = .ok (.iaload, 1) := by decide +kernel
theorem dX12_camp_186 : decode cX12_camp 186 = .ok (.iastore, 1) := by decide +kernel
theorem dX12_camp_187 : decode cX12_camp 187 = .ok (.aload_n 0, 1) := by decide +kernel
theorem dX12_camp_188 : decode cX12_camp 188 = .ok (.getfield 231, 3) := by decide +kernel
theorem dX12_camp_191 : decode cX12_camp 191 = .ok (.iload_n 1, 1) := by decide +kernel
theorem dX12_camp_192 : decode cX12_camp 192 = .ok (.aload_n 0, 1) := by decide +kernel
theorem dX12_camp_193 : decode cX12_camp 193 = .ok (.getfield 120, 3) := by decide +kernel
theorem dX12_camp_196 : decode cX12_camp 196 = .ok (.iload_n 1, 1) := by decide +kernel
theorem dX12_camp_197 : decode cX12_camp 197 = .ok (.iaload, 1) := by decide +kernel
theorem dX12_camp_198 : decode cX12_camp 198 = .ok (.iastore, 1) := by decide +kernel
theorem dX12_camp_199 : decode cX12_camp 199 = .ok (.aload_n 0, 1) := by decide +kernel
theorem dX12_camp_200 : decode cX12_camp 200 = .ok (.getfield 282, 3) := by decide +kernel
theorem dX12_camp_203 : decode cX12_camp 203 = .ok (.iload_n 1, 1) := by decide +kernel
theorem dX12_camp_204 : decode cX12_camp 204 = .ok (.iconst 0, 1) := by decide +kernel
theorem dX12_camp_205 : decode cX12_camp 205 = .ok (.iastore, 1) := by decide +kernel
theorem dX12_camp_206 : decode cX12_camp 206 = .ok (.iinc 1 1, 3) := by decide +kernel
theorem dX12_camp_209 : decode cX12_camp 209 = .ok (.goto (-66), 3) := by decide +kernel
theorem dX12_camp_212 : decode cX12_camp 212 = .ok (.iconst 0, 1) := by decide +kernel
theorem dX12_camp_213 : decode cX12_camp 213 = .ok (.istore_n 1, 1) := by decide +kernel
theorem dX12_camp_214 : decode cX12_camp 214 = .ok (.iload_n 1, 1) := by decide +kernel
theorem dX12_camp_215 : decode cX12_camp 215 = .ok (.aload_n 0, 1) := by decide +kernel
theorem dX12_camp_216 : decode cX12_camp 216 = .ok (.getfield 358, 3) := by decide +kernel
theorem dX12_camp_219 : decode cX12_camp 219 = .ok (.if_icmp .ge 45, 3) := by decide +kernel
theorem dX12_camp_222 : decode cX12_camp 222 = .ok (.aload_n 0, 1) := by decide +kernel
theorem dX12_camp_223 : decode cX12_camp 223 = .ok (.getfield 236, 3) := by decide +kernel
theorem dX12_camp_226 : decode cX12_camp 226 = .ok (.iload_n 1, 1) := by decide +kernel
theorem dX12_camp_227 : decode cX12_camp 227 = .ok (.aload_n 0, 1) := by decide +kernel
theorem dX12_camp_228 : decode cX12_camp 228 = .ok (.getfield 129, 3) := by decide +kernel
theorem dX12_camp_231 : decode cX12_camp 231 = .ok (.iload_n 1, 1) := by decide +kernel
theorem dX12_camp_232 : decode cX12_camp 232 = .ok (.iaload, 1) := by decide +kernel
theorem dX12_camp_233 : decode cX12_camp 233 = .ok (.iastore, 1) := by decide +kernel
theorem dX12_camp_234 : decode cX12_camp 234 = .ok (.aload_n 0, 1) := by decide +kernel
theorem dX12_camp_235 : decode cX12_camp 235 = .ok (.getfield 239, 3) := by decide +kernel
theorem dX12_camp_238 : decode cX12_camp 238 = .ok (.iload_n 1, 1) := by decide +kernel
theorem dX12_camp_239 : decode cX12_camp 239 = .ok (.aload_n 0, 1) := by decide +kernel
theorem dX12_camp_240 : decode cX12_camp 240 = .ok (.getfield 132, 3) := by decide +kernel
theorem dX12_camp_243 : decode cX12_camp 243 = .ok (.iload_n 1, 1) := by decide +kernel
theorem dX12_camp_244 : decode cX12_camp 244 = .ok (.iaload, 1) := by decide +kernel
theorem dX12_camp_245 : decode cX12_camp 245 = .ok (.iastore, 1) := by decide +kernel
theorem dX12_camp_246 : decode cX12_camp 246 = .ok (.aload_n 0, 1) := by decide +kernel
theorem dX12_camp_247 : decode cX12_camp 247 = .ok (.getfield 242, 3) := by decide +kernel
theorem dX12_camp_250 : decode cX12_camp 250 = .ok (.iload_n 1, 1) := by decide +kernel
theorem dX12_camp_251 : decode cX12_camp 251 = .ok (.aload_n 0, 1) := by decide +kernel
theorem dX12_camp_252 : decode cX12_camp 252 = .ok (.getfield 135, 3) := by decide +kernel
theorem dX12_camp_255 : decode cX12_camp 255 = .ok (.iload_n 1, 1) := by decide +kernel
theorem dX12_camp_256 : decode cX12_camp 256 = .ok (.iaload, 1) := by decide +kernel
theorem dX12_camp_257 : decode cX12_camp 257 = .ok (.iastore, 1) := by decide +kernel
theorem dX12_camp_258 : decode cX12_camp 258 = .ok (.iinc 1 1, 3) := by decide +kernel
theorem dX12_camp_261 : decode cX12_camp 261 = .ok (.goto (-47), 3) := by decide +kernel
theorem dX12_camp_264 : decode cX12_camp 264 = .ok (.iconst 0, 1) := by decide +kernel
theorem dX12_camp_265 : decode cX12_camp 265 = .ok (.istore_n 1, 1) := by decide +kernel
theorem dX12_camp_266 : decode cX12_camp 266 = .ok (.iload_n 1, 1) := by decide +kernel
theorem dX12_camp_267 : decode cX12_camp 267 = .ok (.aload_n 0, 1) := by decide +kernel
theorem dX12_camp_268 : decode cX12_camp 268 = .ok (.getfield 361, 3) := by decide +kernel
theorem dX12_camp_271 : decode cX12_camp 271 = .ok (.if_icmp .ge 21, 3) := by decide +kernel
theorem dX12_camp_274 : decode cX12_camp 274 = .ok (.aload_n 0, 1) := by decide +kernel
theorem dX12_camp_275 : decode cX12_camp 275 = .ok (.getfield 245, 3) := by decide +kernel
theorem dX12_camp_278 : decode cX12_camp 278 = .ok (.iload_n 1, 1) := by decide +kernel
theorem dX12_camp_279 : decode cX12_camp 279 = .ok (.aload_n 0, 1) := by decide +kernel
theorem dX12_camp_280 : decode cX12_camp 280 = .ok (.getfield 150, 3) := by decide +kernel
theorem dX12_camp_283 : decode cX12_camp 283 = .ok (.iload_n 1, 1) := by decide +kernel
theorem dX12_camp_284 : decode cX12_camp 284 = .ok (.iaload, 1) := by decide +kernel
theorem dX12_camp_285 : decode cX12_camp 285 = .ok (.iastore, 1) := by decide +kernel
theorem dX12_camp_286 : decode cX12_camp 286 = .ok (.iinc 1 1, 3) := by decide +kernel
theorem dX12_camp_289 : decode cX12_camp 289 = .ok (.goto (-23), 3) := by decide +kernel
theorem dX12_camp_292 : decode cX12_camp 292 = .ok (.aload_n 0, 1) := by decide +kernel
theorem dX12_camp_293 : decode cX12_camp 293 = .ok (.invokevirtual 367, 3) := by decide +kernel
theorem dX12_camp_296 : decode cX12_camp 296 = .ok (.aload_n 0, 1) := by decide +kernel
theorem dX12_camp_297 : decode cX12_camp 297 = .ok (.getfield 364, 3) := by decide +kernel
theorem dX12_camp_300 : decode cX12_camp 300 = .ok (.ireturn, 1) := by decide +kernel
theorem dX12_beginAnew_0 : decode cX12_beginAnew 0 = .ok (.aload_n 0, 1) := by decide +kernel
theorem dX12_beginAnew_1 : decode cX12_beginAnew 1 = .ok (.iconst 0, 1) := by decide +kernel
theorem dX12_beginAnew_2 : decode cX12_beginAnew 2 = .ok (.putfield 370, 3) := by decide +kernel
theorem dX12_beginAnew_5 : decode cX12_beginAnew 5 = .ok (.aload_n 0, 1) := by decide +kernel
theorem dX12_beginAnew_6 : decode cX12_beginAnew 6 = .ok (.iconst 0, 1) := by decide +kernel
theorem dX12_beginAnew_7 : decode cX12_beginAnew 7 = .ok (.putfield 373, 3) := by decide +kernel
theorem dX12_beginAnew_10 : decode cX12_beginAnew 10 = .ok (.iconst 0, 1) := by decide +kernel
theorem dX12_beginAnew_11 : decode cX12_beginAnew 11 = .ok (.istore_n 1, 1) := by decide +kernel
theorem dX12_beginAnew_12 : decode cX12_beginAnew 12 = .ok (.iload_n 1, 1) := by decide +kernel
theorem dX12_beginAnew_13 : decode cX12_beginAnew 13 = .ok (.iconst 5, 1) := by decide +kernel
theorem dX12_beginAnew_14 : decode cX12_beginAnew 14 = .ok (.if_icmp .ge 16, 3) := by decide +kernel
theorem dX12_beginAnew_17 : decode cX12_beginAnew 17 = .ok (.aload_n 0, 1) := by decide +kernel
theorem dX12_beginAnew_18 : decode cX12_beginAnew 18 = .ok (.getfield 267, 3) := by decide +kernel
theorem dX12_beginAnew_21 : decode cX12_beginAnew 21 = .ok (.iload_n 1, 1) := by decide +kernel
theorem dX12_beginAnew_22 : decode cX12_beginAnew 22 = .ok (.iconst 0, 1) := by decide +kernel
theorem dX12_beginAnew_23 : decode cX12_beginAnew 23 = .ok (.iastore, 1) := by decide +kernel
theorem dX12_beginAnew_24 : decode cX12_beginAnew 24 = .ok (.iinc 1 1, 3) := by decide +kernel
theorem dX12_beginAnew_27 : decode cX12_beginAnew 27 = .ok (.goto (-15), 3) := by decide +kernel
theorem dX12_beginAnew_30 : decode cX12_beginAnew 30 = .ok (.iconst 0, 1) := by decide +kernel
theorem dX12_beginAnew_31 : decode cX12_beginAnew 31 = .ok (.istore_n 1, 1) := by decide +kernel
theorem dX12_beginAnew_32 : decode cX12_beginAnew 32 = .ok (.iload_n 1, 1) := by decide +kernel
theorem dX12_beginAnew_33 : decode cX12_beginAnew 33 = .ok (.iconst 4, 1) := by decide +kernel
theorem dX12_beginAnew_34 : decode cX12_beginAnew 34 = .ok (.if_icmp .ge 16, 3) := by decide +kernel
theorem dX12_beginAnew_37 : decode cX12_beginAnew 37 = .ok (.aload_n 0, 1) := by decide +kernel
theorem dX12_beginAnew_38 : decode cX12_beginAnew 38 = .ok (.getfield 269, 3) := by decide +kernel
theorem dX12_beginAnew_41 : decode cX12_beginAnew 41 = .ok (.iload_n 1, 1) := by decide +kernel
theorem dX12_beginAnew_42 : decode cX12_beginAnew 42 = .ok (.iconst 0, 1) := by decide +kernel
theorem dX12_beginAnew_43 : decode cX12_beginAnew 43 = .ok (.iastore, 1) := by decide +kernel
theorem dX12_beginAnew_44 : decode cX12_beginAnew 44 = .ok (.iinc 1 1, 3) := by decide +kernel
theorem dX12_beginAnew_47 : decode cX12_beginAnew 47 = .ok (.goto (-15), 3) := by decide +kernel
theorem dX12_beginAnew_50 : decode cX12_beginAnew 50 = .ok (.aload_n 0, 1) := by decide +kernel
theorem dX12_beginAnew_51 : decode cX12_beginAnew 51 = .ok (.iconst 0, 1) := by decide +kernel
theorem dX12_beginAnew_52 : decode cX12_beginAnew 52 = .ok (.putfield 376, 3) := by decide +kernel
theorem dX12_beginAnew_55 : decode cX12_beginAnew 55 = .ok (.aload_n 0, 1) := by decide +kernel
theorem dX12_beginAnew_56 : decode cX12_beginAnew 56 = .ok (.iconst 0, 1) := by decide +kernel
theorem dX12_beginAnew_57 : decode cX12_beginAnew 57 = .ok (.putfield 379, 3) := by decide +kernel
theorem dX12_beginAnew_60 : decode cX12_beginAnew 60 = .ok (.aload_n 0, 1) := by decide +kernel
theorem dX12_beginAnew_61 : decode cX12_beginAnew 61 = .ok (.iconst 0, 1) := by decide +kernel
theorem dX12_beginAnew_62 : decode cX12_beginAnew 62 = .ok (.putfield 382, 3) := by decide +kernel
theorem dX12_beginAnew_65 : decode cX12_beginAnew 65 = .ok (.aload_n 0, 1) := by decide +kernel
theorem dX12_beginAnew_66 : decode cX12_beginAnew 66 = .ok (.iconst 0, 1) := by decide +kernel
theorem dX12_beginAnew_67 : decode cX12_beginAnew 67 = .ok (.putfield 385, 3) := by decide +kernel
theorem dX12_beginAnew_70 : decode cX12_beginAnew 70 = .ok (.iconst 0, 1) := by decide +kernel
theorem dX12_beginAnew_71 : decode cX12_beginAnew 71 = .ok (.istore_n 1, 1) := by decide +kernel
theorem dX12_beginAnew_72 : decode cX12_beginAnew 72 = .ok (.iload_n 1, 1) := by decide +kernel
theorem dX12_beginAnew_73 : decode cX12_beginAnew 73 = .ok (.iconst 2, 1) := by decide +kernel
theorem dX12_beginAnew_74 : decode cX12_beginAnew 74 = .ok (.if_icmp .ge 16, 3) := by decide +kernel
theorem dX12_beginAnew_77 : decode cX12_beginAnew 77 = .ok (.aload_n 0, 1) := by decide +kernel
theorem dX12_beginAnew_78 : decode cX12_beginAnew 78 = .ok (.getfield 278, 3) := by decide +kernel
theorem dX12_beginAnew_81 : decode cX12_beginAnew 81 = .ok (.iload_n 1, 1) := by decide +kernel
theorem dX12_beginAnew_82 : decode cX12_beginAnew 82 = .ok (.iconst 0, 1) := by decide +kernel
theorem dX12_beginAnew_83 : decode cX12_beginAnew 83 = .ok (.bastore, 1) := by decide +kernel
theorem dX12_beginAnew_84 : decode cX12_beginAnew 84 = .ok (.iinc 1 1, 3) := by decide +kernel
theorem dX12_beginAnew_87 : decode cX12_beginAnew 87 = .ok (.goto (-15), 3) := by decide +kernel
theorem dX12_beginAnew_90 : decode cX12_beginAnew 90 = .ok (.aload_n 0, 1) := by decide +kernel
theorem dX12_beginAnew_91 : decode cX12_beginAnew 91 = .ok (.iconst 0, 1) := by decide +kernel
theorem dX12_beginAnew_92 : decode cX12_beginAnew 92 = .ok (.putfield 388, 3) := by decide +kernel
theorem dX12_beginAnew_95 : decode cX12_beginAnew 95 = .ok (.aload_n 0, 1) := by decide +kernel
theorem dX12_beginAnew_96 : decode cX12_beginAnew 96 = .ok (.iconst 0, 1) := by decide +kernel
theorem dX12_beginAnew_97 : decode cX12_beginAnew 97 = .ok (.putfield 391, 3) := by decide +kernel
theorem dX12_beginAnew_100 : decode cX12_beginAnew 100 = .ok (.return_, 1) := by decide +kernel
theorem dX12_fault_0 : decode cX12_fault 0 = .ok (.iload_n 1, 1) := by decide +kernel
theorem dX12_fault_1 : decode cX12_fault 1 = .ok (.ifCond .ne 10, 3) := by decide +kernel
theorem dX12_fault_4 : decode cX12_fault 4 = .ok (.aload_n 0, 1) := by decide +kernel
theorem dX12_fault_5 : decode cX12_fault 5 = .ok (.getfield 3, 3) := by decide +kernel
theorem dX12_fault_8 : decode cX12_fault 8 = .ok (.goto 16, 3) := by decide +kernel
theorem dX12_fault_11 : decode cX12_fault 11 = .ok (.iload_n 1, 1) := by decide +kernel
theorem dX12_fault_12 : decode cX12_fault 12 = .ok (.iconst 1, 1) := by decide +kernel
theorem dX12_fault_13 : decode cX12_fault 13 = .ok (.if_icmp .ne 10, 3) := by decide +kernel
theorem dX12_fault_16 : decode cX12_fault 16 = .ok (.aload_n 0, 1) := by decide +kernel
theorem dX12_fault_17 : decode cX12_fault 17 = .ok (.getfield 10, 3) := by decide +kernel
theorem dX12_fault_20 : decode cX12_fault 20 = .ok (.goto 4, 3) := by decide +kernel
theorem dX12_fault_23 : decode cX12_fault 23 = .ok (.iconst (-1), 1) := by decide +kernel
theorem dX12_fault_24 : decode cX12_fault 24 = .ok (.ireturn, 1) := by decide +kernel
theorem dX12_told_0 : decode cX12_told 0 = .ok (.iload_n 1, 1) := by decide +kernel
theorem dX12_told_1 : decode cX12_told 1 = .ok (.bipush 10, 2) := by decide +kernel
theorem dX12_told_3 : decode cX12_told 3 = .ok (.irem, 1) := by decide +kernel
theorem dX12_told_4 : decode cX12_told 4 = .ok (.istore_n 2, 1) := by decide +kernel
theorem dX12_told_5 : decode cX12_told 5 = .ok (.iload_n 1, 1) := by decide +kernel
theorem dX12_told_6 : decode cX12_told 6 = .ok (.i2l, 1) := by decide +kernel
theorem dX12_told_7 : decode cX12_told 7 = .ok (.ldc2_w 394, 3) := by decide +kernel
theorem dX12_told_10 : decode cX12_told 10 = .ok (.ldc2_w 396, 3) := by decide +kernel
theorem dX12_told_13 : decode cX12_told 13 = .ok (.invokestatic 52, 3) := by decide +kernel
theorem dX12_told_16 : decode cX12_told 16 = .ok (.ifCond .eq 67, 3) := by decide +kernel
theorem dX12_told_19 : decode cX12_told 19 = .ok (.iload_n 2, 1) := by decide +kernel
theorem dX12_told_20 : decode cX12_told 20 = .ok (.aload_n 0, 1) := by decide +kernel
theorem dX12_told_21 : decode cX12_told 21 = .ok (.getfield 355, 3) := by decide +kernel
theorem dX12_told_24 : decode cX12_told 24 = .ok (.if_icmp .lt 7, 3) := by decide +kernel
theorem dX12_told_27 : decode cX12_told 27 = .ok (.iconst (-1), 1) := by decide +kernel
theorem dX12_told_28 : decode cX12_told 28 = .ok (.goto 54, 3) := by decide +kernel
theorem dX12_told_31 : decode cX12_told 31 = .ok (.iload_n 1, 1) := by decide +kernel
theorem dX12_told_32 : decode cX12_told 32 = .ok (.bipush 30, 2) := by decide +kernel
theorem dX12_told_34 : decode cX12_told 34 = .ok (.if_icmp .ge 12, 3) := by decide +kernel
theorem dX12_told_37 : decode cX12_told 37 = .ok (.aload_n 0, 1) := by decide +kernel
theorem dX12_told_38 : decode cX12_told 38 = .ok (.getfield 222, 3) := by decide +kernel
theorem dX12_told_41 : decode cX12_told 41 = .ok (.iload_n 2, 1) := by decide +kernel
theorem dX12_told_42 : decode cX12_told 42 = .ok (.iaload, 1) := by decide +kernel
theorem dX12_told_43 : decode cX12_told 43 = .ok (.goto 39, 3) := by decide +kernel
theorem dX12_told_46 : decode cX12_told 46 = .ok (.iload_n 1, 1) := by decide +kernel
theorem dX12_told_47 : decode cX12_told 47 = .ok (.bipush 40, 2) := by decide +kernel
theorem dX12_told_49 : decode cX12_told 49 = .ok (.if_icmp .ge 12, 3) := by decide +kernel
theorem dX12_told_52 : decode cX12_told 52 = .ok (.aload_n 0, 1) := by decide +kernel
theorem dX12_told_53 : decode cX12_told 53 = .ok (.getfield 225, 3) := by decide +kernel
theorem dX12_told_56 : decode cX12_told 56 = .ok (.iload_n 2, 1) := by decide +kernel
theorem dX12_told_57 : decode cX12_told 57 = .ok (.iaload, 1) := by decide +kernel
theorem dX12_told_58 : decode cX12_told 58 = .ok (.goto 24, 3) := by decide +kernel
theorem dX12_told_61 : decode cX12_told 61 = .ok (.iload_n 1, 1) := by decide +kernel
theorem dX12_told_62 : decode cX12_told 62 = .ok (.bipush 50, 2) := by decide +kernel
theorem dX12_told_64 : decode cX12_told 64 = .ok (.if_icmp .ge 12, 3) := by decide +kernel
theorem dX12_told_67 : decode cX12_told 67 = .ok (.aload_n 0, 1) := by decide +kernel
theorem dX12_told_68 : decode cX12_told 68 = .ok (.getfield 228, 3) := by decide +kernel
theorem dX12_told_71 : decode cX12_told 71 = .ok (.iload_n 2, 1) := by decide +kernel
theorem dX12_told_72 : decode cX12_told 72 = .ok (.iaload, 1) := by decide +kernel
theorem dX12_told_73 : decode cX12_told 73 = .ok (.goto 9, 3) := by decide +kernel
theorem dX12_told_76 : decode cX12_told 76 = .ok (.aload_n 0, 1) := by decide +kernel
theorem dX12_told_77 : decode cX12_told 77 = .ok (.getfield 231, 3) := by decide +kernel
theorem dX12_told_80 : decode cX12_told 80 = .ok (.iload_n 2, 1) := by decide +kernel
theorem dX12_told_81 : decode cX12_told 81 = .ok (.iaload, 1) := by decide +kernel
theorem dX12_told_82 : decode cX12_told 82 = .ok (.ireturn, 1) := by decide +kernel
theorem dX12_told_83 : decode cX12_told 83 = .ok (.iload_n 1, 1) := by decide +kernel
theorem dX12_told_84 : decode cX12_told 84 = .ok (.i2l, 1) := by decide +kernel
theorem dX12_told_85 : decode cX12_told 85 = .ok (.ldc2_w 398, 3) := by decide +kernel
theorem dX12_told_88 : decode cX12_told 88 = .ok (.ldc2_w 400, 3) := by decide +kernel
theorem dX12_told_91 : decode cX12_told 91 = .ok (.invokestatic 52, 3) := by decide +kernel
theorem dX12_told_94 : decode cX12_told 94 = .ok (.ifCond .eq 52, 3) := by decide +kernel
theorem dX12_told_97 : decode cX12_told 97 = .ok (.iload_n 2, 1) := by decide +kernel
theorem dX12_told_98 : decode cX12_told 98 = .ok (.aload_n 0, 1) := by decide +kernel
theorem dX12_told_99 : decode cX12_told 99 = .ok (.getfield 358, 3) := by decide +kernel
theorem dX12_told_102 : decode cX12_told 102 = .ok (.if_icmp .lt 7, 3) := by decide +kernel
theorem dX12_told_105 : decode cX12_told 105 = .ok (.iconst (-1), 1) := by decide +kernel
theorem dX12_told_106 : decode cX12_told 106 = .ok (.goto 39, 3) := by decide +kernel
theorem dX12_told_109 : decode cX12_told 109 = .ok (.iload_n 1, 1) := by decide +kernel
theorem dX12_told_110 : decode cX12_told 110 = .ok (.bipush 70, 2) := by decide +kernel
theorem dX12_told_112 : decode cX12_told 112 = .ok (.if_icmp .ge 12, 3) := by decide +kernel
theorem dX12_told_115 : decode cX12_told 115 = .ok (.aload_n 0, 1) := by decide +kernel
theorem dX12_told_116 : decode cX12_told 116 = .ok (.getfield 236, 3) := by decide +kernel
theorem dX12_told_119 : decode cX12_told 119 = .ok (.iload_n 2, 1) := by decide +kernel
theorem dX12_told_120 : decode cX12_told 120 = .ok (.iaload, 1) := by decide +kernel
theorem dX12_told_121 : decode cX12_told 121 = .ok (.goto 24, 3) := by decide +kernel
theorem dX12_told_124 : decode cX12_told 124 = .ok (.iload_n 1, 1) := by decide +kernel
theorem dX12_told_125 : decode cX12_told 125 = .ok (.bipush 80, 2) := by decide +kernel
theorem dX12_told_127 : decode cX12_told 127 = .ok (.if_icmp .ge 12, 3) := by decide +kernel
theorem dX12_told_130 : decode cX12_told 130 = .ok (.aload_n 0, 1) := by decide +kernel
theorem dX12_told_131 : decode cX12_told 131 = .ok (.getfield 239, 3) := by decide +kernel
theorem dX12_told_134 : decode cX12_told 134 = .ok (.iload_n 2, 1) := by decide +kernel
theorem dX12_told_135 : decode cX12_told 135 = .ok (.iaload, 1) := by decide +kernel
theorem dX12_told_136 : decode cX12_told 136 = .ok (.goto 9, 3) := by decide +kernel
theorem dX12_told_139 : decode cX12_told 139 = .ok (.aload_n 0, 1) := by decide +kernel
theorem dX12_told_140 : decode cX12_told 140 = .ok (.getfield 242, 3) := by decide +kernel
theorem dX12_told_143 : decode cX12_told 143 = .ok (.iload_n 2, 1) := by decide +kernel
theorem dX12_told_144 : decode cX12_told 144 = .ok (.iaload, 1) := by decide +kernel
theorem dX12_told_145 : decode cX12_told 145 = .ok (.ireturn, 1) := by decide +kernel
theorem dX12_told_146 : decode cX12_told 146 = .ok (.iload_n 1, 1) := by decide +kernel
theorem dX12_told_147 : decode cX12_told 147 = .ok (.i2l, 1) := by decide +kernel
theorem dX12_told_148 : decode cX12_told 148 = .ok (.ldc2_w 402, 3) := by decide +kernel
theorem dX12_told_151 : decode cX12_told 151 = .ok (.ldc2_w 400, 3) := by decide +kernel
theorem dX12_told_154 : decode cX12_told 154 = .ok (.aload_n 0, 1) := by decide +kernel
theorem dX12_told_155 : decode cX12_told 155 = .ok (.getfield 361, 3) := by decide +kernel
theorem dX12_told_158 : decode cX12_told 158 = .ok (.i2l, 1) := by decide +kernel
theorem dX12_told_159 : decode cX12_told 159 = .ok (.ladd, 1) := by decide +kernel
theorem dX12_told_160 : decode cX12_told 160 = .ok (.invokestatic 52, 3) := by decide +kernel
theorem dX12_told_163 : decode cX12_told 163 = .ok (.ifCond .eq 10, 3) := by decide +kernel
theorem dX12_told_166 : decode cX12_told 166 = .ok (.aload_n 0, 1) := by decide +kernel
theorem dX12_told_167 : decode cX12_told 167 = .ok (.getfield 245, 3) := by decide +kernel
theorem dX12_told_170 : decode cX12_told 170 = .ok (.iload_n 2, 1) := by decide +kernel
theorem dX12_told_171 : decode cX12_told 171 = .ok (.iaload, 1) := by decide +kernel
theorem dX12_told_172 : decode cX12_told 172 = .ok (.ireturn, 1) := by decide +kernel
theorem dX12_told_173 : decode cX12_told 173 = .ok (.iload_n 1, 1) := by decide +kernel
theorem dX12_told_174 : decode cX12_told 174 = .ok (.i2l, 1) := by decide +kernel
theorem dX12_told_175 : decode cX12_told 175 = .ok (.ldc2_w 404, 3) := by decide +kernel
theorem dX12_told_178 : decode cX12_told 178 = .ok (.ldc2_w 406, 3) := by decide +kernel
theorem dX12_told_181 : decode cX12_told 181 = .ok (.invokestatic 52, 3) := by decide +kernel
theorem dX12_told_184 : decode cX12_told 184 = .ok (.ifCond .eq 12, 3) := by decide +kernel
theorem dX12_told_187 : decode cX12_told 187 = .ok (.aload_n 0, 1) := by decide +kernel
theorem dX12_told_188 : decode cX12_told 188 = .ok (.getfield 219, 3) := by decide +kernel
theorem dX12_told_191 : decode cX12_told 191 = .ok (.iload_n 1, 1) := by decide +kernel
theorem dX12_told_192 : decode cX12_told 192 = .ok (.iconst 3, 1) := by decide +kernel
theorem dX12_told_193 : decode cX12_told 193 = .ok (.isub, 1) := by decide +kernel
theorem dX12_told_194 : decode cX12_told 194 = .ok (.iaload, 1) := by decide +kernel
theorem dX12_told_195 : decode cX12_told 195 = .ok (.ireturn, 1) := by decide +kernel
theorem dX12_told_196 : decode cX12_told 196 = .ok (.iload_n 1, 1) := by decide +kernel
theorem dX12_told_197 : decode cX12_told 197 = .ok (.tableswitch 96 0 13 #[71, 76, 81, 96, 96, 96, 96, 96, 96, 96, 96, 96, 86, 91], 71) := by decide +kernel
theorem dX12_told_268 : decode cX12_told 268 = .ok (.aload_n 0, 1) := by decide +kernel
theorem dX12_told_269 : decode cX12_told 269 = .ok (.getfield 355, 3) := by decide +kernel
theorem dX12_told_272 : decode cX12_told 272 = .ok (.ireturn, 1) := by decide +kernel
theorem dX12_told_273 : decode cX12_told 273 = .ok (.aload_n 0, 1) := by decide +kernel
theorem dX12_told_274 : decode cX12_told 274 = .ok (.getfield 358, 3) := by decide +kernel
theorem dX12_told_277 : decode cX12_told 277 = .ok (.ireturn, 1) := by decide +kernel
theorem dX12_told_278 : decode cX12_told 278 = .ok (.aload_n 0, 1) := by decide +kernel
theorem dX12_told_279 : decode cX12_told 279 = .ok (.getfield 361, 3) := by decide +kernel
theorem dX12_told_282 : decode cX12_told 282 = .ok (.ireturn, 1) := by decide +kernel
theorem dX12_told_283 : decode cX12_told 283 = .ok (.aload_n 0, 1) := by decide +kernel
theorem dX12_told_284 : decode cX12_told 284 = .ok (.getfield 213, 3) := by decide +kernel
theorem dX12_told_287 : decode cX12_told 287 = .ok (.ireturn, 1) := by decide +kernel
theorem dX12_told_288 : decode cX12_told 288 = .ok (.aload_n 0, 1) := by decide +kernel
theorem dX12_told_289 : decode cX12_told 289 = .ok (.getfield 216, 3) := by decide +kernel
theorem dX12_told_292 : decode cX12_told 292 = .ok (.ireturn, 1) := by decide +kernel
theorem dX12_told_293 : decode cX12_told 293 = .ok (.iconst (-1), 1) := by decide +kernel
theorem dX12_told_294 : decode cX12_told 294 = .ok (.ireturn, 1) := by decide +kernel
theorem dX12_isHut_0 : decode cX12_isHut 0 = .ok (.iload_n 1, 1) := by decide +kernel
theorem dX12_isHut_1 : decode cX12_isHut 1 = .ok (.i2l, 1) := by decide +kernel
theorem dX12_isHut_2 : decode cX12_isHut 2 = .ok (.lconst 0, 1) := by decide +kernel
theorem dX12_isHut_3 : decode cX12_isHut 3 = .ok (.aload_n 0, 1) := by decide +kernel
theorem dX12_isHut_4 : decode cX12_isHut 4 = .ok (.getfield 355, 3) := by decide +kernel
theorem dX12_isHut_7 : decode cX12_isHut 7 = .ok (.i2l, 1) := by decide +kernel
theorem dX12_isHut_8 : decode cX12_isHut 8 = .ok (.lconst 1, 1) := by decide +kernel
theorem dX12_isHut_9 : decode cX12_isHut 9 = .ok (.lsub, 1) := by decide +kernel
theorem dX12_isHut_10 : decode cX12_isHut 10 = .ok (.invokestatic 52, 3) := by decide +kernel
theorem dX12_isHut_13 : decode cX12_isHut 13 = .ok (.ireturn, 1) := by decide +kernel
theorem dX12_isGarden_0 : decode cX12_isGarden 0 = .ok (.iload_n 1, 1) := by decide +kernel
theorem dX12_isGarden_1 : decode cX12_isGarden 1 = .ok (.i2l, 1) := by decide +kernel
theorem dX12_isGarden_2 : decode cX12_isGarden 2 = .ok (.lconst 0, 1) := by decide +kernel
theorem dX12_isGarden_3 : decode cX12_isGarden 3 = .ok (.aload_n 0, 1) := by decide +kernel
theorem dX12_isGarden_4 : decode cX12_isGarden 4 = .ok (.getfield 358, 3) := by decide +kernel
theorem dX12_isGarden_7 : decode cX12_isGarden 7 = .ok (.i2l, 1) := by decide +kernel
theorem dX12_isGarden_8 : decode cX12_isGarden 8 = .ok (.lconst 1, 1) := by decide +kernel
theorem dX12_isGarden_9 : decode cX12_isGarden 9 = .ok (.lsub, 1) := by decide +kernel
theorem dX12_isGarden_10 : decode cX12_isGarden 10 = .ok (.invokestatic 52, 3) := by decide +kernel
theorem dX12_isGarden_13 : decode cX12_isGarden 13 = .ok (.ireturn, 1) := by decide +kernel
theorem dX12_run_0 : decode cX12_run 0 = .ok (.aload_n 0, 1) := by decide +kernel
theorem dX12_run_1 : decode cX12_run 1 = .ok (.iload_n 1, 1) := by decide +kernel
theorem dX12_run_2 : decode cX12_run 2 = .ok (.invokevirtual 408, 3) := by decide +kernel
theorem dX12_run_5 : decode cX12_run 5 = .ok (.ifCond .eq 24, 3) := by decide +kernel
theorem dX12_run_8 : decode cX12_run 8 = .ok (.aload_n 0, 1) := by decide +kernel
theorem dX12_run_9 : decode cX12_run 9 = .ok (.iload_n 2, 1) := by decide +kernel
theorem dX12_run_10 : decode cX12_run 10 = .ok (.invokevirtual 408, 3) := by decide +kernel
theorem dX12_run_13 : decode cX12_run 13 = .ok (.ifCond .eq 16, 3) := by decide +kernel
theorem dX12_run_16 : decode cX12_run 16 = .ok (.aload_n 0, 1) := by decide +kernel
theorem dX12_run_17 : decode cX12_run 17 = .ok (.getfield 234, 3) := by decide +kernel
theorem dX12_run_20 : decode cX12_run 20 = .ok (.iconst 5, 1) := by decide +kernel
theorem dX12_run_21 : decode cX12_run 21 = .ok (.iload_n 1, 1) := by decide +kernel
theorem dX12_run_22 : decode cX12_run 22 = .ok (.imul, 1) := by decide +kernel
theorem dX12_run_23 : decode cX12_run 23 = .ok (.iload_n 2, 1) := by decide +kernel
theorem dX12_run_24 : decode cX12_run 24 = .ok (.iadd, 1) := by decide +kernel
theorem dX12_run_25 : decode cX12_run 25 = .ok (.iaload, 1) := by decide +kernel
theorem dX12_run_26 : decode cX12_run 26 = .ok (.goto 5, 3) := by decide +kernel
theorem dX12_run_29 : decode cX12_run 29 = .ok (.bipush (-2), 2) := by decide +kernel
theorem dX12_run_31 : decode cX12_run 31 = .ok (.ireturn, 1) := by decide +kernel
theorem dX12_draw_0 : decode cX12_draw 0 = .ok (.aload_n 0, 1) := by decide +kernel
theorem dX12_draw_1 : decode cX12_draw 1 = .ok (.ldc2_w 411, 3) := by decide +kernel
theorem dX12_draw_4 : decode cX12_draw 4 = .ok (.aload_n 0, 1) := by decide +kernel
theorem dX12_draw_5 : decode cX12_draw 5 = .ok (.getfield 248, 3) := by decide +kernel
theorem dX12_draw_8 : decode cX12_draw 8 = .ok (.lmul, 1) := by decide +kernel
theorem dX12_draw_9 : decode cX12_draw 9 = .ok (.ldc2_w 413, 3) := by decide +kernel
theorem dX12_draw_12 : decode cX12_draw 12 = .ok (.ladd, 1) := by decide +kernel
theorem dX12_draw_13 : decode cX12_draw 13 = .ok (.ldc2_w 415, 3) := by decide +kernel
theorem dX12_draw_16 : decode cX12_draw 16 = .ok (.lrem, 1) := by decide +kernel
theorem dX12_draw_17 : decode cX12_draw 17 = .ok (.putfield 248, 3) := by decide +kernel
theorem dX12_draw_20 : decode cX12_draw 20 = .ok (.aload_n 0, 1) := by decide +kernel
theorem dX12_draw_21 : decode cX12_draw 21 = .ok (.getfield 248, 3) := by decide +kernel
theorem dX12_draw_24 : decode cX12_draw 24 = .ok (.ldc2_w 417, 3) := by decide +kernel
theorem dX12_draw_27 : decode cX12_draw 27 = .ok (.ldiv, 1) := by decide +kernel
theorem dX12_draw_28 : decode cX12_draw 28 = .ok (.iload_n 1, 1) := by decide +kernel
theorem dX12_draw_29 : decode cX12_draw 29 = .ok (.i2l, 1) := by decide +kernel
theorem dX12_draw_30 : decode cX12_draw 30 = .ok (.lrem, 1) := by decide +kernel
theorem dX12_draw_31 : decode cX12_draw 31 = .ok (.l2i, 1) := by decide +kernel
theorem dX12_draw_32 : decode cX12_draw 32 = .ok (.ireturn, 1) := by decide +kernel
theorem dX12_chance_0 : decode cX12_chance 0 = .ok (.iload_n 1, 1) := by decide +kernel
theorem dX12_chance_1 : decode cX12_chance 1 = .ok (.ifCond .ge 6, 3) := by decide +kernel
theorem dX12_chance_4 : decode cX12_chance 4 = .ok (.bipush (-2), 2) := by decide +kernel
theorem dX12_chance_6 : decode cX12_chance 6 = .ok (.ireturn, 1) := by decide +kernel
theorem dX12_chance_7 : decode cX12_chance 7 = .ok (.aload_n 0, 1) := by decide +kernel
theorem dX12_chance_8 : decode cX12_chance 8 = .ok (.iload_n 1, 1) := by decide +kernel
theorem dX12_chance_9 : decode cX12_chance 9 = .ok (.i2l, 1) := by decide +kernel
theorem dX12_chance_10 : decode cX12_chance 10 = .ok (.putfield 248, 3) := by decide +kernel
theorem dX12_chance_13 : decode cX12_chance 13 = .ok (.iconst 1, 1) := by decide +kernel
theorem dX12_chance_14 : decode cX12_chance 14 = .ok (.ireturn, 1) := by decide +kernel
theorem dX12_open_0 : decode cX12_open 0 = .ok (.aload_n 0, 1) := by decide +kernel
theorem dX12_open_1 : decode cX12_open 1 = .ok (.iload_n 1, 1) := by decide +kernel
theorem dX12_open_2 : decode cX12_open 2 = .ok (.invokevirtual 408, 3) := by decide +kernel
theorem dX12_open_5 : decode cX12_open 5 = .ok (.ifCond .ne 6, 3) := by decide +kernel
theorem dX12_open_8 : decode cX12_open 8 = .ok (.bipush (-2), 2) := by decide +kernel
theorem dX12_open_10 : decode cX12_open 10 = .ok (.ireturn, 1) := by decide +kernel
theorem dX12_open_11 : decode cX12_open 11 = .ok (.aload_n 0, 1) := by decide +kernel
theorem dX12_open_12 : decode cX12_open 12 = .ok (.getfield 370, 3) := by decide +kernel
theorem dX12_open_15 : decode cX12_open 15 = .ok (.iconst 3, 1) := by decide +kernel
theorem dX12_open_16 : decode cX12_open 16 = .ok (.if_icmp .ne 6, 3) := by decide +kernel
theorem dX12_open_19 : decode cX12_open 19 = .ok (.bipush (-3), 2) := by decide +kernel
theorem dX12_open_21 : decode cX12_open 21 = .ok (.ireturn, 1) := by decide +kernel
theorem dX12_open_22 : decode cX12_open 22 = .ok (.aload_n 0, 1) := by decide +kernel
theorem dX12_open_23 : decode cX12_open 23 = .ok (.getfield 252, 3) := by decide +kernel
theorem dX12_open_26 : decode cX12_open 26 = .ok (.aload_n 0, 1) := by decide +kernel
theorem dX12_open_27 : decode cX12_open 27 = .ok (.getfield 370, 3) := by decide +kernel
theorem dX12_open_30 : decode cX12_open 30 = .ok (.iload_n 1, 1) := by decide +kernel
theorem dX12_open_31 : decode cX12_open 31 = .ok (.iastore, 1) := by decide +kernel
theorem dX12_open_32 : decode cX12_open 32 = .ok (.aload_n 0, 1) := by decide +kernel
theorem dX12_open_33 : decode cX12_open 33 = .ok (.getfield 255, 3) := by decide +kernel
theorem dX12_open_36 : decode cX12_open 36 = .ok (.aload_n 0, 1) := by decide +kernel
theorem dX12_open_37 : decode cX12_open 37 = .ok (.getfield 370, 3) := by decide +kernel
theorem dX12_open_40 : decode cX12_open 40 = .ok (.iconst 0, 1) := by decide +kernel
theorem dX12_open_41 : decode cX12_open 41 = .ok (.iastore, 1) := by decide +kernel
theorem dX12_open_42 : decode cX12_open 42 = .ok (.aload_n 0, 1) := by decide +kernel
theorem dX12_open_43 : decode cX12_open 43 = .ok (.getfield 258, 3) := by decide +kernel
theorem dX12_open_46 : decode cX12_open 46 = .ok (.aload_n 0, 1) := by decide +kernel
theorem dX12_open_47 : decode cX12_open 47 = .ok (.getfield 370, 3) := by decide +kernel
theorem dX12_open_50 : decode cX12_open 50 = .ok (.iconst 0, 1) := by decide +kernel
theorem dX12_open_51 : decode cX12_open 51 = .ok (.iastore, 1) := by decide +kernel
theorem dX12_open_52 : decode cX12_open 52 = .ok (.aload_n 0, 1) := by decide +kernel
theorem dX12_open_53 : decode cX12_open 53 = .ok (.getfield 261, 3) := by decide +kernel
theorem dX12_open_56 : decode cX12_open 56 = .ok (.aload_n 0, 1) := by decide +kernel
theorem dX12_open_57 : decode cX12_open 57 = .ok (.getfield 370, 3) := by decide +kernel
theorem dX12_open_60 : decode cX12_open 60 = .ok (.iconst 0, 1) := by decide +kernel
theorem dX12_open_61 : decode cX12_open 61 = .ok (.iastore, 1) := by decide +kernel
theorem dX12_open_62 : decode cX12_open 62 = .ok (.aload_n 0, 1) := by decide +kernel
theorem dX12_open_63 : decode cX12_open 63 = .ok (.getfield 264, 3) := by decide +kernel
theorem dX12_open_66 : decode cX12_open 66 = .ok (.aload_n 0, 1) := by decide +kernel
theorem dX12_open_67 : decode cX12_open 67 = .ok (.getfield 370, 3) := by decide +kernel
theorem dX12_open_70 : decode cX12_open 70 = .ok (.iconst 0, 1) := by decide +kernel
theorem dX12_open_71 : decode cX12_open 71 = .ok (.iastore, 1) := by decide +kernel
theorem dX12_open_72 : decode cX12_open 72 = .ok (.aload_n 0, 1) := by decide +kernel
theorem dX12_open_73 : decode cX12_open 73 = .ok (.dup, 1) := by decide +kernel
theorem dX12_open_74 : decode cX12_open 74 = .ok (.getfield 370, 3) := by decide +kernel
theorem dX12_open_77 : decode cX12_open 77 = .ok (.iconst 1, 1) := by decide +kernel
theorem dX12_open_78 : decode cX12_open 78 = .ok (.iadd, 1) := by decide +kernel
theorem dX12_open_79 : decode cX12_open 79 = .ok (.putfield 370, 3) := by decide +kernel
theorem dX12_open_82 : decode cX12_open 82 = .ok (.aload_n 0, 1) := by decide +kernel
theorem dX12_open_83 : decode cX12_open 83 = .ok (.getfield 370, 3) := by decide +kernel
theorem dX12_open_86 : decode cX12_open 86 = .ok (.iconst 1, 1) := by decide +kernel
theorem dX12_open_87 : decode cX12_open 87 = .ok (.isub, 1) := by decide +kernel
theorem dX12_open_88 : decode cX12_open 88 = .ok (.ireturn, 1) := by decide +kernel
theorem dX12_isTunnel_0 : decode cX12_isTunnel 0 = .ok (.iload_n 1, 1) := by decide +kernel
theorem dX12_isTunnel_1 : decode cX12_isTunnel 1 = .ok (.i2l, 1) := by decide +kernel
theorem dX12_isTunnel_2 : decode cX12_isTunnel 2 = .ok (.lconst 0, 1) := by decide +kernel
theorem dX12_isTunnel_3 : decode cX12_isTunnel 3 = .ok (.aload_n 0, 1) := by decide +kernel
theorem dX12_isTunnel_4 : decode cX12_isTunnel 4 = .ok (.getfield 370, 3) := by decide +kernel
theorem dX12_isTunnel_7 : decode cX12_isTunnel 7 = .ok (.i2l, 1) := by decide +kernel
theorem dX12_isTunnel_8 : decode cX12_isTunnel 8 = .ok (.lconst 1, 1) := by decide +kernel
theorem dX12_isTunnel_9 : decode cX12_isTunnel 9 = .ok (.lsub, 1) := by decide +kernel
theorem dX12_isTunnel_10 : decode cX12_isTunnel 10 = .ok (.invokestatic 52, 3) := by decide +kernel
theorem dX12_isTunnel_13 : decode cX12_isTunnel 13 = .ok (.ireturn, 1) := by decide +kernel
theorem dX12_boardsLeft_0 : decode cX12_boardsLeft 0 = .ok (.iconst 0, 1) := by decide +kernel
theorem dX12_boardsLeft_1 : decode cX12_boardsLeft 1 = .ok (.istore_n 1, 1) := by decide +kernel
theorem dX12_boardsLeft_2 : decode cX12_boardsLeft 2 = .ok (.iconst 0, 1) := by decide +kernel
theorem dX12_boardsLeft_3 : decode cX12_boardsLeft 3 = .ok (.istore_n 2, 1) := by decide +kernel
theorem dX12_boardsLeft_4 : decode cX12_boardsLeft 4 = .ok (.iload_n 2, 1) := by decide +kernel
theorem dX12_boardsLeft_5 : decode cX12_boardsLeft 5 = .ok (.aload_n 0, 1) := by decide +kernel
theorem dX12_boardsLeft_6 : decode cX12_boardsLeft 6 = .ok (.getfield 355, 3) := by decide +kernel
theorem dX12_boardsLeft_9 : decode cX12_boardsLeft 9 = .ok (.if_icmp .ge 32, 3) := by decide +kernel
theorem dX12_boardsLeft_12 : decode cX12_boardsLeft 12 = .ok (.iload_n 1, 1) := by decide +kernel
theorem dX12_boardsLeft_13 : decode cX12_boardsLeft 13 = .ok (.aload_n 0, 1) := by decide +kernel
theorem dX12_boardsLeft_14 : decode cX12_boardsLeft 14 = .ok (.getfield 228, 3) := by decide +kernel
theorem dX12_boardsLeft_17 : decode cX12_boardsLeft 17 = .ok (.iload_n 2, 1) := by decide +kernel
theorem dX12_boardsLeft_18 : decode cX12_boardsLeft 18 = .ok (.iaload, 1) := by decide +kernel
theorem dX12_boardsLeft_19 : decode cX12_boardsLeft 19 = .ok (.iconst 0, 1) := by decide +kernel
theorem dX12_boardsLeft_20 : decode cX12_boardsLeft 20 = .ok (.aload_n 0, 1) := by decide +kernel
theorem dX12_boardsLeft_21 : decode cX12_boardsLeft 21 = .ok (.getfield 213, 3) := by decide +kernel
theorem dX12_boardsLeft_24 : decode cX12_boardsLeft 24 = .ok (.aload_n 0, 1) := by decide +kernel
theorem dX12_boardsLeft_25 : decode cX12_boardsLeft 25 = .ok (.getfield 216, 3) := by decide +kernel
theorem dX12_boardsLeft_28 : decode cX12_boardsLeft 28 = .ok (.isub, 1) := by decide +kernel
theorem dX12_boardsLeft_29 : decode cX12_boardsLeft 29 = .ok (.invokestatic 419, 3) := by decide +kernel
theorem dX12_boardsLeft_32 : decode cX12_boardsLeft 32 = .ok (.imul, 1) := by decide +kernel
theorem dX12_boardsLeft_33 : decode cX12_boardsLeft 33 = .ok (.iadd, 1) := by decide +kernel
theorem dX12_boardsLeft_34 : decode cX12_boardsLeft 34 = .ok (.istore_n 1, 1) := by decide +kernel
theorem dX12_boardsLeft_35 : decode cX12_boardsLeft 35 = .ok (.iinc 2 1, 3) := by decide +kernel
theorem dX12_boardsLeft_38 : decode cX12_boardsLeft 38 = .ok (.goto (-34), 3) := by decide +kernel
theorem dX12_boardsLeft_41 : decode cX12_boardsLeft 41 = .ok (.iload_n 1, 1) := by decide +kernel
theorem dX12_boardsLeft_42 : decode cX12_boardsLeft 42 = .ok (.aload_n 0, 1) := by decide +kernel
theorem dX12_boardsLeft_43 : decode cX12_boardsLeft 43 = .ok (.getfield 373, 3) := by decide +kernel
theorem dX12_boardsLeft_46 : decode cX12_boardsLeft 46 = .ok (.isub, 1) := by decide +kernel
theorem dX12_boardsLeft_47 : decode cX12_boardsLeft 47 = .ok (.ireturn, 1) := by decide +kernel
theorem dX12_boards_0 : decode cX12_boards 0 = .ok (.aload_n 0, 1) := by decide +kernel
theorem dX12_boards_1 : decode cX12_boards 1 = .ok (.invokevirtual 425, 3) := by decide +kernel
theorem dX12_boards_4 : decode cX12_boards 4 = .ok (.ireturn, 1) := by decide +kernel
theorem dX12_shift_0 : decode cX12_shift 0 = .ok (.aload_n 0, 1) := by decide +kernel
theorem dX12_shift_1 : decode cX12_shift 1 = .ok (.iload_n 1, 1) := by decide +kernel
theorem dX12_shift_2 : decode cX12_shift 2 = .ok (.invokevirtual 428, 3) := by decide +kernel
theorem dX12_shift_5 : decode cX12_shift 5 = .ok (.ifCond .eq 15, 3) := by decide +kernel
theorem dX12_shift_8 : decode cX12_shift 8 = .ok (.iload_n 2, 1) := by decide +kernel
theorem dX12_shift_9 : decode cX12_shift 9 = .ok (.i2l, 1) := by decide +kernel
theorem dX12_shift_10 : decode cX12_shift 10 = .ok (.lconst 1, 1) := by decide +kernel
theorem dX12_shift_11 : decode cX12_shift 11 = .ok (.ldc2_w 431, 3) := by decide +kernel
theorem dX12_shift_14 : decode cX12_shift 14 = .ok (.invokestatic 52, 3) := by decide +kernel
theorem dX12_shift_17 : decode cX12_shift 17 = .ok (.ifCond .ne 6, 3) := by decide +kernel
theorem dX12_shift_20 : decode cX12_shift 20 = .ok (.bipush (-2), 2) := by decide +kernel
theorem dX12_shift_22 : decode cX12_shift 22 = .ok (.ireturn, 1) := by decide +kernel
theorem dX12_shift_23 : decode cX12_shift 23 = .ok (.iconst 0, 1) := by decide +kernel
theorem dX12_shift_24 : decode cX12_shift 24 = .ok (.iload_n 2, 1) := by decide +kernel
theorem dX12_shift_25 : decode cX12_shift 25 = .ok (.aload_n 0, 1) := by decide +kernel
theorem dX12_shift_26 : decode cX12_shift 26 = .ok (.getfield 255, 3) := by decide +kernel
theorem dX12_shift_29 : decode cX12_shift 29 = .ok (.iload_n 1, 1) := by decide +kernel
theorem dX12_shift_30 : decode cX12_shift 30 = .ok (.iaload, 1) := by decide +kernel
theorem dX12_shift_31 : decode cX12_shift 31 = .ok (.aload_n 0, 1) := by decide +kernel
theorem dX12_shift_32 : decode cX12_shift 32 = .ok (.getfield 219, 3) := by decide +kernel
theorem dX12_shift_35 : decode cX12_shift 35 = .ok (.bipush 6, 2) := by decide +kernel
theorem dX12_shift_37 : decode cX12_shift 37 = .ok (.iaload, 1) := by decide +kernel
theorem dX12_shift_38 : decode cX12_shift 38 = .ok (.idiv, 1) := by decide +kernel
theorem dX12_shift_39 : decode cX12_shift 39 = .ok (.isub, 1) := by decide +kernel
theorem dX12_shift_40 : decode cX12_shift 40 = .ok (.invokestatic 419, 3) := by decide +kernel
theorem dX12_shift_43 : decode cX12_shift 43 = .ok (.istore_n 3, 1) := by decide +kernel
theorem dX12_shift_44 : decode cX12_shift 44 = .ok (.aload_n 0, 1) := by decide +kernel
theorem dX12_shift_45 : decode cX12_shift 45 = .ok (.getfield 258, 3) := by decide +kernel
theorem dX12_shift_48 : decode cX12_shift 48 = .ok (.iload_n 1, 1) := by decide +kernel
theorem dX12_shift_49 : decode cX12_shift 49 = .ok (.iaload, 1) := by decide +kernel
theorem dX12_shift_50 : decode cX12_shift 50 = .ok (.iload_n 3, 1) := by decide +kernel
theorem dX12_shift_51 : decode cX12_shift 51 = .ok (.aload_n 0, 1) := by decide +kernel
theorem dX12_shift_52 : decode cX12_shift 52 = .ok (.getfield 219, 3) := by decide +kernel
theorem dX12_shift_55 : decode cX12_shift 55 = .ok (.bipush 7, 2) := by decide +kernel
theorem dX12_shift_57 : decode cX12_shift 57 = .ok (.iaload, 1) := by decide +kernel
theorem dX12_shift_58 : decode cX12_shift 58 = .ok (.imul, 1) := by decide +kernel
theorem dX12_shift_59 : decode cX12_shift 59 = .ok (.iadd, 1) := by decide +kernel
theorem dX12_shift_60 : decode cX12_shift 60 = .ok (.istore 4, 2) := by decide +kernel
theorem dX12_shift_62 : decode cX12_shift 62 = .ok (.iload 4, 2) := by decide +kernel
theorem dX12_shift_64 : decode cX12_shift 64 = .ok (.bipush 10, 2) := by decide +kernel
theorem dX12_shift_66 : decode cX12_shift 66 = .ok (.idiv, 1) := by decide +kernel
theorem dX12_shift_67 : decode cX12_shift 67 = .ok (.istore 5, 2) := by decide +kernel
theorem dX12_shift_69 : decode cX12_shift 69 = .ok (.aload_n 0, 1) := by decide +kernel
theorem dX12_shift_70 : decode cX12_shift 70 = .ok (.getfield 258, 3) := by decide +kernel
theorem dX12_shift_73 : decode cX12_shift 73 = .ok (.iload_n 1, 1) := by decide +kernel
theorem dX12_shift_74 : decode cX12_shift 74 = .ok (.iload 4, 2) := by decide +kernel
theorem dX12_shift_76 : decode cX12_shift 76 = .ok (.bipush 10, 2) := by decide +kernel
theorem dX12_shift_78 : decode cX12_shift 78 = .ok (.irem, 1) := by decide +kernel
theorem dX12_shift_79 : decode cX12_shift 79 = .ok (.iastore, 1) := by decide +kernel
theorem dX12_shift_80 : decode cX12_shift 80 = .ok (.aload_n 0, 1) := by decide +kernel
theorem dX12_shift_81 : decode cX12_shift 81 = .ok (.getfield 219, 3) := by decide +kernel
theorem dX12_shift_84 : decode cX12_shift 84 = .ok (.iconst 5, 1) := by decide +kernel
theorem dX12_shift_85 : decode cX12_shift 85 = .ok (.iaload, 1) := by decide +kernel
theorem dX12_shift_86 : decode cX12_shift 86 = .ok (.ifCond .le 21, 3) := by decide +kernel
theorem dX12_shift_89 : decode cX12_shift 89 = .ok (.iload 5, 2) := by decide +kernel
theorem dX12_shift_91 : decode cX12_shift 91 = .ok (.aload_n 0, 1) := by decide +kernel
theorem dX12_shift_92 : decode cX12_shift 92 = .ok (.invokevirtual 425, 3) := by decide +kernel
theorem dX12_shift_95 : decode cX12_shift 95 = .ok (.aload_n 0, 1) := by decide +kernel
theorem dX12_shift_96 : decode cX12_shift 96 = .ok (.getfield 219, 3) := by decide +kernel
theorem dX12_shift_99 : decode cX12_shift 99 = .ok (.iconst 5, 1) := by decide +kernel
theorem dX12_shift_100 : decode cX12_shift 100 = .ok (.iaload, 1) := by decide +kernel
theorem dX12_shift_101 : decode cX12_shift 101 = .ok (.idiv, 1) := by decide +kernel
theorem dX12_shift_102 : decode cX12_shift 102 = .ok (.invokestatic 433, 3) := by decide +kernel
theorem dX12_shift_105 : decode cX12_shift 105 = .ok (.istore 5, 2) := by decide +kernel
theorem dX12_shift_107 : decode cX12_shift 107 = .ok (.aload_n 0, 1) := by decide +kernel
theorem dX12_shift_108 : decode cX12_shift 108 = .ok (.dup, 1) := by decide +kernel
theorem dX12_shift_109 : decode cX12_shift 109 = .ok (.getfield 373, 3) := by decide +kernel
theorem dX12_shift_112 : decode cX12_shift 112 = .ok (.iload 5, 2) := by decide +kernel
theorem dX12_shift_114 : decode cX12_shift 114 = .ok (.aload_n 0, 1) := by decide +kernel
theorem dX12_shift_115 : decode cX12_shift 115 = .ok (.getfield 219, 3) := by decide +kernel
theorem dX12_shift_118 : decode cX12_shift 118 = .ok (.iconst 5, 1) := by decide +kernel
theorem dX12_shift_119 : decode cX12_shift 119 = .ok (.iaload, 1) := by decide +kernel
theorem dX12_shift_120 : decode cX12_shift 120 = .ok (.imul, 1) := by decide +kernel
theorem dX12_shift_121 : decode cX12_shift 121 = .ok (.iadd, 1) := by decide +kernel
theorem dX12_shift_122 : decode cX12_shift 122 = .ok (.putfield 373, 3) := by decide +kernel
theorem dX12_shift_125 : decode cX12_shift 125 = .ok (.aload_n 0, 1) := by decide +kernel
theorem dX12_shift_126 : decode cX12_shift 126 = .ok (.getfield 267, 3) := by decide +kernel
theorem dX12_shift_129 : decode cX12_shift 129 = .ok (.aload_n 0, 1) := by decide +kernel
theorem dX12_shift_130 : decode cX12_shift 130 = .ok (.getfield 252, 3) := by decide +kernel
theorem dX12_shift_133 : decode cX12_shift 133 = .ok (.iload_n 1, 1) := by decide +kernel
theorem dX12_shift_134 : decode cX12_shift 134 = .ok (.iaload, 1) := by decide +kernel
theorem dX12_shift_135 : decode cX12_shift 135 = .ok (.dup2, 1) := by decide +kernel
theorem dX12_shift_136 : decode cX12_shift 136 = .ok (.iaload, 1) := by decide +kernel
theorem dX12_shift_137 : decode cX12_shift 137 = .ok (.iload 5, 2) := by decide +kernel
theorem dX12_shift_139 : decode cX12_shift 139 = .ok (.aload_n 0, 1) := by decide +kernel
theorem dX12_shift_140 : decode cX12_shift 140 = .ok (.getfield 219, 3) := by decide +kernel
theorem dX12_shift_143 : decode cX12_shift 143 = .ok (.iconst 2, 1) := by decide +kernel
theorem dX12_shift_144 : decode cX12_shift 144 = .ok (.iaload, 1) := by decide +kernel
theorem dX12_shift_145 : decode cX12_shift 145 = .ok (.imul, 1) := by decide +kernel
theorem dX12_shift_146 : decode cX12_shift 146 = .ok (.iadd, 1) := by decide +kernel
theorem dX12_shift_147 : decode cX12_shift 147 = .ok (.iastore, 1) := by decide +kernel
theorem dX12_shift_148 : decode cX12_shift 148 = .ok (.aload_n 0, 1) := by decide +kernel
theorem dX12_shift_149 : decode cX12_shift 149 = .ok (.getfield 261, 3) := by decide +kernel
theorem dX12_shift_152 : decode cX12_shift 152 = .ok (.iload_n 1, 1) := by decide +kernel
theorem dX12_shift_153 : decode cX12_shift 153 = .ok (.dup2, 1) := by decide +kernel
theorem dX12_shift_154 : decode cX12_shift 154 = .ok (.iaload, 1) := by decide +kernel
theorem dX12_shift_155 : decode cX12_shift 155 = .ok (.iconst 1, 1) := by decide +kernel
theorem dX12_shift_156 : decode cX12_shift 156 = .ok (.iadd, 1) := by decide +kernel
theorem dX12_shift_157 : decode cX12_shift 157 = .ok (.iastore, 1) := by decide +kernel
theorem dX12_shift_158 : decode cX12_shift 158 = .ok (.aload_n 0, 1) := by decide +kernel
theorem dX12_shift_159 : decode cX12_shift 159 = .ok (.getfield 219, 3) := by decide +kernel
theorem dX12_shift_162 : decode cX12_shift 162 = .ok (.bipush 8, 2) := by decide +kernel
theorem dX12_shift_164 : decode cX12_shift 164 = .ok (.iaload, 1) := by decide +kernel
theorem dX12_shift_165 : decode cX12_shift 165 = .ok (.ifCond .le 23, 3) := by decide +kernel
theorem dX12_shift_168 : decode cX12_shift 168 = .ok (.aload_n 0, 1) := by decide +kernel
theorem dX12_shift_169 : decode cX12_shift 169 = .ok (.bipush 100, 2) := by decide +kernel
theorem dX12_shift_171 : decode cX12_shift 171 = .ok (.invokevirtual 436, 3) := by decide +kernel
theorem dX12_shift_174 : decode cX12_shift 174 = .ok (.aload_n 0, 1) := by decide +kernel
theorem dX12_shift_175 : decode cX12_shift 175 = .ok (.getfield 219, 3) := by decide +kernel
theorem dX12_shift_178 : decode cX12_shift 178 = .ok (.bipush 8, 2) := by decide +kernel
theorem dX12_shift_180 : decode cX12_shift 180 = .ok (.iaload, 1) := by decide +kernel
theorem dX12_shift_181 : decode cX12_shift 181 = .ok (.if_icmp .ge 7, 3) := by decide +kernel
theorem dX12_shift_184 : decode cX12_shift 184 = .ok (.iconst 1, 1) := by decide +kernel
theorem dX12_shift_185 : decode cX12_shift 185 = .ok (.goto 4, 3) := by decide +kernel
theorem dX12_shift_188 : decode cX12_shift 188 = .ok (.iconst 0, 1) := by decide +kernel
theorem dX12_shift_189 : decode cX12_shift 189 = .ok (.istore 6, 2) := by decide +kernel
theorem dX12_shift_191 : decode cX12_shift 191 = .ok (.iload 6, 2) := by decide +kernel
theorem dX12_shift_193 : decode cX12_shift 193 = .ok (.ifCond .eq 16, 3) := by decide +kernel
theorem dX12_shift_196 : decode cX12_shift 196 = .ok (.aload_n 0, 1) := by decide +kernel
theorem dX12_shift_197 : decode cX12_shift 197 = .ok (.getfield 264, 3) := by decide +kernel
theorem dX12_shift_200 : decode cX12_shift 200 = .ok (.iload_n 1, 1) := by decide +kernel
theorem dX12_shift_201 : decode cX12_shift 201 = .ok (.dup2, 1) := by decide +kernel
theorem dX12_shift_202 : decode cX12_shift 202 = .ok (.iaload, 1) := by decide +kernel
theorem dX12_shift_203 : decode cX12_shift 203 = .ok (.iconst 1, 1) := by decide +kernel
theorem dX12_shift_204 : decode cX12_shift 204 = .ok (.iadd, 1) := by decide +kernel
theorem dX12_shift_205 : decode cX12_shift 205 = .ok (.iastore, 1) := by decide +kernel
theorem dX12_shift_206 : decode cX12_shift 206 = .ok (.goto 14, 3) := by decide +kernel
theorem dX12_shift_209 : decode cX12_shift 209 = .ok (.aload_n 0, 1) := by decide +kernel
theorem dX12_shift_210 : decode cX12_shift 210 = .ok (.getfield 255, 3) := by decide +kernel
theorem dX12_shift_213 : decode cX12_shift 213 = .ok (.iload_n 1, 1) := by decide +kernel
theorem dX12_shift_214 : decode cX12_shift 214 = .ok (.dup2, 1) := by decide +kernel
theorem dX12_shift_215 : decode cX12_shift 215 = .ok (.iaload, 1) := by decide +kernel
theorem dX12_shift_216 : decode cX12_shift 216 = .ok (.iload 5, 2) := by decide +kernel
theorem dX12_shift_218 : decode cX12_shift 218 = .ok (.iadd, 1) := by decide +kernel
theorem dX12_shift_219 : decode cX12_shift 219 = .ok (.iastore, 1) := by decide +kernel
theorem dX12_shift_220 : decode cX12_shift 220 = .ok (.aload_n 0, 1) := by decide +kernel
theorem dX12_shift_221 : decode cX12_shift 221 = .ok (.getfield 255, 3) := by decide +kernel
theorem dX12_shift_224 : decode cX12_shift 224 = .ok (.iload_n 1, 1) := by decide +kernel
theorem dX12_shift_225 : decode cX12_shift 225 = .ok (.iaload, 1) := by decide +kernel
theorem dX12_shift_226 : decode cX12_shift 226 = .ok (.ireturn, 1) := by decide +kernel
theorem dX12_tunnel_0 : decode cX12_tunnel 0 = .ok (.aload_n 0, 1) := by decide +kernel
theorem dX12_tunnel_1 : decode cX12_tunnel 1 = .ok (.iload_n 1, 1) := by decide +kernel
theorem dX12_tunnel_2 : decode cX12_tunnel 2 = .ok (.invokevirtual 428, 3) := by decide +kernel
theorem dX12_tunnel_5 : decode cX12_tunnel 5 = .ok (.ifCond .eq 15, 3) := by decide +kernel
theorem dX12_tunnel_8 : decode cX12_tunnel 8 = .ok (.iload_n 2, 1) := by decide +kernel
theorem dX12_tunnel_9 : decode cX12_tunnel 9 = .ok (.i2l, 1) := by decide +kernel
theorem dX12_tunnel_10 : decode cX12_tunnel 10 = .ok (.lconst 0, 1) := by decide +kernel
theorem dX12_tunnel_11 : decode cX12_tunnel 11 = .ok (.ldc2_w 439, 3) := by decide +kernel
theorem dX12_tunnel_14 : decode cX12_tunnel 14 = .ok (.invokestatic 52, 3) := by decide +kernel
theorem dX12_tunnel_17 : decode cX12_tunnel 17 = .ok (.ifCond .ne 6, 3) := by decide +kernel
theorem dX12_tunnel_20 : decode cX12_tunnel 20 = .ok (.bipush (-2), 2) := by decide +kernel
theorem dX12_tunnel_22 : decode cX12_tunnel 22 = .ok (.ireturn, 1) := by decide +kernel
theorem dX12_tunnel_23 : decode cX12_tunnel 23 = .ok (.iload_n 2, 1) := by decide +kernel
theorem dX12_tunnel_24 : decode cX12_tunnel 24 = .ok (.tableswitch 71 0 4 #[36, 43, 50, 57, 64], 36) := by decide +kernel
theorem dX12_tunnel_60 : decode cX12_tunnel 60 = .ok (.aload_n 0, 1) := by decide +kernel
theorem dX12_tunnel_61 : decode cX12_tunnel 61 = .ok (.getfield 252, 3) := by decide +kernel
theorem dX12_tunnel_64 : decode cX12_tunnel 64 = .ok (.iload_n 1, 1) := by decide +kernel
theorem dX12_tunnel_65 : decode cX12_tunnel 65 = .ok (.iaload, 1) := by decide +kernel
theorem dX12_tunnel_66 : decode cX12_tunnel 66 = .ok (.ireturn, 1) := by decide +kernel
theorem dX12_tunnel_67 : decode cX12_tunnel 67 = .ok (.aload_n 0, 1) := by decide +kernel
theorem dX12_tunnel_68 : decode cX12_tunnel 68 = .ok (.getfield 255, 3) := by decide +kernel
theorem dX12_tunnel_71 : decode cX12_tunnel 71 = .ok (.iload_n 1, 1) := by decide +kernel
theorem dX12_tunnel_72 : decode cX12_tunnel 72 = .ok (.iaload, 1) := by decide +kernel
theorem dX12_tunnel_73 : decode cX12_tunnel 73 = .ok (.ireturn, 1) := by decide +kernel
theorem dX12_tunnel_74 : decode cX12_tunnel 74 = .ok (.aload_n 0, 1) := by decide +kernel
theorem dX12_tunnel_75 : decode cX12_tunnel 75 = .ok (.getfield 258, 3) := by decide +kernel
theorem dX12_tunnel_78 : decode cX12_tunnel 78 = .ok (.iload_n 1, 1) := by decide +kernel
theorem dX12_tunnel_79 : decode cX12_tunnel 79 = .ok (.iaload, 1) := by decide +kernel
theorem dX12_tunnel_80 : decode cX12_tunnel 80 = .ok (.ireturn, 1) := by decide +kernel
theorem dX12_tunnel_81 : decode cX12_tunnel 81 = .ok (.aload_n 0, 1) := by decide +kernel
theorem dX12_tunnel_82 : decode cX12_tunnel 82 = .ok (.getfield 261, 3) := by decide +kernel
theorem dX12_tunnel_85 : decode cX12_tunnel 85 = .ok (.iload_n 1, 1) := by decide +kernel
theorem dX12_tunnel_86 : decode cX12_tunnel 86 = .ok (.iaload, 1) := by decide +kernel
theorem dX12_tunnel_87 : decode cX12_tunnel 87 = .ok (.ireturn, 1) := by decide +kernel
theorem dX12_tunnel_88 : decode cX12_tunnel 88 = .ok (.aload_n 0, 1) := by decide +kernel
theorem dX12_tunnel_89 : decode cX12_tunnel 89 = .ok (.getfield 264, 3) := by decide +kernel
theorem dX12_tunnel_92 : decode cX12_tunnel 92 = .ok (.iload_n 1, 1) := by decide +kernel
theorem dX12_tunnel_93 : decode cX12_tunnel 93 = .ok (.iaload, 1) := by decide +kernel
theorem dX12_tunnel_94 : decode cX12_tunnel 94 = .ok (.ireturn, 1) := by decide +kernel
theorem dX12_tunnel_95 : decode cX12_tunnel 95 = .ok (.aload_n 0, 1) := by decide +kernel
theorem dX12_tunnel_96 : decode cX12_tunnel 96 = .ok (.getfield 255, 3) := by decide +kernel
theorem dX12_tunnel_99 : decode cX12_tunnel 99 = .ok (.iload_n 1, 1) := by decide +kernel
theorem dX12_tunnel_100 : decode cX12_tunnel 100 = .ok (.iaload, 1) := by decide +kernel
theorem dX12_tunnel_101 : decode cX12_tunnel 101 = .ok (.aload_n 0, 1) := by decide +kernel
theorem dX12_tunnel_102 : decode cX12_tunnel 102 = .ok (.getfield 219, 3) := by decide +kernel
theorem dX12_tunnel_105 : decode cX12_tunnel 105 = .ok (.bipush 6, 2) := by decide +kernel
theorem dX12_tunnel_107 : decode cX12_tunnel 107 = .ok (.iaload, 1) := by decide +kernel
theorem dX12_tunnel_108 : decode cX12_tunnel 108 = .ok (.idiv, 1) := by decide +kernel
theorem dX12_tunnel_109 : decode cX12_tunnel 109 = .ok (.ireturn, 1) := by decide +kernel
theorem dX12_lies_0 : decode cX12_lies 0 = .ok (.aload_n 0, 1) := by decide +kernel
theorem dX12_lies_1 : decode cX12_lies 1 = .ok (.iload_n 1, 1) := by decide +kernel
theorem dX12_lies_2 : decode cX12_lies 2 = .ok (.invokevirtual 408, 3) := by decide +kernel
theorem dX12_lies_5 : decode cX12_lies 5 = .ok (.ifCond .eq 12, 3) := by decide +kernel
theorem dX12_lies_8 : decode cX12_lies 8 = .ok (.aload_n 0, 1) := by decide +kernel
theorem dX12_lies_9 : decode cX12_lies 9 = .ok (.getfield 267, 3) := by decide +kernel
theorem dX12_lies_12 : decode cX12_lies 12 = .ok (.iload_n 1, 1) := by decide +kernel
theorem dX12_lies_13 : decode cX12_lies 13 = .ok (.iaload, 1) := by decide +kernel
theorem dX12_lies_14 : decode cX12_lies 14 = .ok (.goto 5, 3) := by decide +kernel
theorem dX12_lies_17 : decode cX12_lies 17 = .ok (.bipush (-2), 2) := by decide +kernel
theorem dX12_lies_19 : decode cX12_lies 19 = .ok (.ireturn, 1) := by decide +kernel
theorem dX12_reaches_0 : decode cX12_reaches 0 = .ok (.aload_n 0, 1) := by decide +kernel
theorem dX12_reaches_1 : decode cX12_reaches 1 = .ok (.getfield 222, 3) := by decide +kernel
theorem dX12_reaches_4 : decode cX12_reaches 4 = .ok (.iload_n 1, 1) := by decide +kernel
theorem dX12_reaches_5 : decode cX12_reaches 5 = .ok (.iaload, 1) := by decide +kernel
theorem dX12_reaches_6 : decode cX12_reaches 6 = .ok (.aload_n 0, 1) := by decide +kernel
theorem dX12_reaches_7 : decode cX12_reaches 7 = .ok (.getfield 236, 3) := by decide +kernel
theorem dX12_reaches_10 : decode cX12_reaches 10 = .ok (.iload_n 2, 1) := by decide +kernel
theorem dX12_reaches_11 : decode cX12_reaches 11 = .ok (.iaload, 1) := by decide +kernel
theorem dX12_reaches_12 : decode cX12_reaches 12 = .ok (.isub, 1) := by decide +kernel
theorem dX12_reaches_13 : decode cX12_reaches 13 = .ok (.invokestatic 441, 3) := by decide +kernel
theorem dX12_reaches_16 : decode cX12_reaches 16 = .ok (.aload_n 0, 1) := by decide +kernel
theorem dX12_reaches_17 : decode cX12_reaches 17 = .ok (.getfield 225, 3) := by decide +kernel
theorem dX12_reaches_20 : decode cX12_reaches 20 = .ok (.iload_n 1, 1) := by decide +kernel
theorem dX12_reaches_21 : decode cX12_reaches 21 = .ok (.iaload, 1) := by decide +kernel
theorem dX12_reaches_22 : decode cX12_reaches 22 = .ok (.iadd, 1) := by decide +kernel
theorem dX12_reaches_23 : decode cX12_reaches 23 = .ok (.aload_n 0, 1) := by decide +kernel
theorem dX12_reaches_24 : decode cX12_reaches 24 = .ok (.getfield 219, 3) := by decide +kernel
theorem dX12_reaches_27 : decode cX12_reaches 27 = .ok (.iconst 4, 1) := by decide +kernel
theorem dX12_reaches_28 : decode cX12_reaches 28 = .ok (.iaload, 1) := by decide +kernel
theorem dX12_reaches_29 : decode cX12_reaches 29 = .ok (.if_icmp .gt 7, 3) := by decide +kernel
theorem dX12_reaches_32 : decode cX12_reaches 32 = .ok (.iconst 1, 1) := by decide +kernel
theorem dX12_reaches_33 : decode cX12_reaches 33 = .ok (.goto 4, 3) := by decide +kernel
theorem dX12_reaches_36 : decode cX12_reaches 36 = .ok (.iconst 0, 1) := by decide +kernel
theorem dX12_reaches_37 : decode cX12_reaches 37 = .ok (.ireturn, 1) := by decide +kernel
theorem dX12_carry_0 : decode cX12_carry 0 = .ok (.aload_n 0, 1) := by decide +kernel
theorem dX12_carry_1 : decode cX12_carry 1 = .ok (.iload_n 1, 1) := by decide +kernel
theorem dX12_carry_2 : decode cX12_carry 2 = .ok (.invokevirtual 408, 3) := by decide +kernel
theorem dX12_carry_5 : decode cX12_carry 5 = .ok (.ifCond .eq 23, 3) := by decide +kernel
theorem dX12_carry_8 : decode cX12_carry 8 = .ok (.aload_n 0, 1) := by decide +kernel
theorem dX12_carry_9 : decode cX12_carry 9 = .ok (.iload_n 2, 1) := by decide +kernel
theorem dX12_carry_10 : decode cX12_carry 10 = .ok (.invokevirtual 444, 3) := by decide +kernel
theorem dX12_carry_13 : decode cX12_carry 13 = .ok (.ifCond .eq 15, 3) := by decide +kernel
theorem dX12_carry_16 : decode cX12_carry 16 = .ok (.iload_n 3, 1) := by decide +kernel
theorem dX12_carry_17 : decode cX12_carry 17 = .ok (.i2l, 1) := by decide +kernel
theorem dX12_carry_18 : decode cX12_carry 18 = .ok (.lconst 1, 1) := by decide +kernel
theorem dX12_carry_19 : decode cX12_carry 19 = .ok (.ldc2_w 447, 3) := by decide +kernel
theorem dX12_carry_22 : decode cX12_carry 22 = .ok (.invokestatic 52, 3) := by decide +kernel
theorem dX12_carry_25 : decode cX12_carry 25 = .ok (.ifCond .ne 6, 3) := by decide +kernel
theorem dX12_carry_28 : decode cX12_carry 28 = .ok (.bipush (-2), 2) := by decide +kernel
theorem dX12_carry_30 : decode cX12_carry 30 = .ok (.ireturn, 1) := by decide +kernel
theorem dX12_carry_31 : decode cX12_carry 31 = .ok (.aload_n 0, 1) := by decide +kernel
theorem dX12_carry_32 : decode cX12_carry 32 = .ok (.iload_n 1, 1) := by decide +kernel
theorem dX12_carry_33 : decode cX12_carry 33 = .ok (.iload_n 2, 1) := by decide +kernel
theorem dX12_carry_34 : decode cX12_carry 34 = .ok (.invokevirtual 449, 3) := by decide +kernel
theorem dX12_carry_37 : decode cX12_carry 37 = .ok (.ifCond .eq 30, 3) := by decide +kernel
theorem dX12_carry_40 : decode cX12_carry 40 = .ok (.iload_n 3, 1) := by decide +kernel
theorem dX12_carry_41 : decode cX12_carry 41 = .ok (.aload_n 0, 1) := by decide +kernel
theorem dX12_carry_42 : decode cX12_carry 42 = .ok (.getfield 267, 3) := by decide +kernel
theorem dX12_carry_45 : decode cX12_carry 45 = .ok (.iload_n 1, 1) := by decide +kernel
theorem dX12_carry_46 : decode cX12_carry 46 = .ok (.iaload, 1) := by decide +kernel
theorem dX12_carry_47 : decode cX12_carry 47 = .ok (.if_icmp .gt 20, 3) := by decide +kernel
theorem dX12_carry_50 : decode cX12_carry 50 = .ok (.iload_n 3, 1) := by decide +kernel
theorem dX12_carry_51 : decode cX12_carry 51 = .ok (.aload_n 0, 1) := by decide +kernel
theorem dX12_carry_52 : decode cX12_carry 52 = .ok (.getfield 242, 3) := by decide +kernel
theorem dX12_carry_55 : decode cX12_carry 55 = .ok (.iload_n 2, 1) := by decide +kernel
theorem dX12_carry_56 : decode cX12_carry 56 = .ok (.iaload, 1) := by decide +kernel
theorem dX12_carry_57 : decode cX12_carry 57 = .ok (.aload_n 0, 1) := by decide +kernel
theorem dX12_carry_58 : decode cX12_carry 58 = .ok (.getfield 269, 3) := by decide +kernel
theorem dX12_carry_61 : decode cX12_carry 61 = .ok (.iload_n 2, 1) := by decide +kernel
theorem dX12_carry_62 : decode cX12_carry 62 = .ok (.iaload, 1) := by decide +kernel
theorem dX12_carry_63 : decode cX12_carry 63 = .ok (.isub, 1) := by decide +kernel
theorem dX12_carry_64 : decode cX12_carry 64 = .ok (.if_icmp .le 6, 3) := by decide +kernel
theorem dX12_carry_67 : decode cX12_carry 67 = .ok (.bipush (-4), 2) := by decide +kernel
theorem dX12_carry_69 : decode cX12_carry 69 = .ok (.ireturn, 1) := by decide +kernel
theorem dX12_carry_70 : decode cX12_carry 70 = .ok (.aload_n 0, 1) := by decide +kernel
theorem dX12_carry_71 : decode cX12_carry 71 = .ok (.getfield 267, 3) := by decide +kernel
theorem dX12_carry_74 : decode cX12_carry 74 = .ok (.iload_n 1, 1) := by decide +kernel
theorem dX12_carry_75 : decode cX12_carry 75 = .ok (.dup2, 1) := by decide +kernel
theorem dX12_carry_76 : decode cX12_carry 76 = .ok (.iaload, 1) := by decide +kernel
theorem dX12_carry_77 : decode cX12_carry 77 = .ok (.iload_n 3, 1) := by decide +kernel
theorem dX12_carry_78 : decode cX12_carry 78 = .ok (.isub, 1) := by decide +kernel
theorem dX12_carry_79 : decode cX12_carry 79 = .ok (.iastore, 1) := by decide +kernel
theorem dX12_carry_80 : decode cX12_carry 80 = .ok (.aload_n 0, 1) := by decide +kernel
theorem dX12_carry_81 : decode cX12_carry 81 = .ok (.getfield 269, 3) := by decide +kernel
theorem dX12_carry_84 : decode cX12_carry 84 = .ok (.iload_n 2, 1) := by decide +kernel
theorem dX12_carry_85 : decode cX12_carry 85 = .ok (.dup2, 1) := by decide +kernel
theorem dX12_carry_86 : decode cX12_carry 86 = .ok (.iaload, 1) := by decide +kernel
theorem dX12_carry_87 : decode cX12_carry 87 = .ok (.iload_n 3, 1) := by decide +kernel
theorem dX12_carry_88 : decode cX12_carry 88 = .ok (.iadd, 1) := by decide +kernel
theorem dX12_carry_89 : decode cX12_carry 89 = .ok (.iastore, 1) := by decide +kernel
theorem dX12_carry_90 : decode cX12_carry 90 = .ok (.aload_n 0, 1) := by decide +kernel
theorem dX12_carry_91 : decode cX12_carry 91 = .ok (.getfield 267, 3) := by decide +kernel
theorem dX12_carry_94 : decode cX12_carry 94 = .ok (.iload_n 1, 1) := by decide +kernel
theorem dX12_carry_95 : decode cX12_carry 95 = .ok (.iaload, 1) := by decide +kernel
theorem dX12_carry_96 : decode cX12_carry 96 = .ok (.ireturn, 1) := by decide +kernel
theorem dX12_had_0 : decode cX12_had 0 = .ok (.aload_n 0, 1) := by decide +kernel
theorem dX12_had_1 : decode cX12_had 1 = .ok (.iload_n 1, 1) := by decide +kernel
theorem dX12_had_2 : decode cX12_had 2 = .ok (.invokevirtual 444, 3) := by decide +kernel
theorem dX12_had_5 : decode cX12_had 5 = .ok (.ifCond .eq 12, 3) := by decide +kernel
theorem dX12_had_8 : decode cX12_had 8 = .ok (.aload_n 0, 1) := by decide +kernel
theorem dX12_had_9 : decode cX12_had 9 = .ok (.getfield 269, 3) := by decide +kernel
theorem dX12_had_12 : decode cX12_had 12 = .ok (.iload_n 1, 1) := by decide +kernel
theorem dX12_had_13 : decode cX12_had 13 = .ok (.iaload, 1) := by decide +kernel
theorem dX12_had_14 : decode cX12_had 14 = .ok (.goto 5, 3) := by decide +kernel
theorem dX12_had_17 : decode cX12_had 17 = .ok (.bipush (-2), 2) := by decide +kernel
theorem dX12_had_19 : decode cX12_had 19 = .ok (.ireturn, 1) := by decide +kernel
theorem dX12_mostIn_0 : decode cX12_mostIn 0 = .ok (.iconst (-1), 1) := by decide +kernel
theorem dX12_mostIn_1 : decode cX12_mostIn 1 = .ok (.istore_n 2, 1) := by decide +kernel
theorem dX12_mostIn_2 : decode cX12_mostIn 2 = .ok (.iconst 0, 1) := by decide +kernel
theorem dX12_mostIn_3 : decode cX12_mostIn 3 = .ok (.istore_n 3, 1) := by decide +kernel
theorem dX12_mostIn_4 : decode cX12_mostIn 4 = .ok (.iload_n 3, 1) := by decide +kernel
theorem dX12_mostIn_5 : decode cX12_mostIn 5 = .ok (.iconst 1, 1) := by decide +kernel
theorem dX12_mostIn_6 : decode cX12_mostIn 6 = .ok (.aload_n 0, 1) := by decide +kernel
theorem dX12_mostIn_7 : decode cX12_mostIn 7 = .ok (.getfield 355, 3) := by decide +kernel
theorem dX12_mostIn_10 : decode cX12_mostIn 10 = .ok (.ishl, 1) := by decide +kernel
theorem dX12_mostIn_11 : decode cX12_mostIn 11 = .ok (.if_icmp .ge 205, 3) := by decide +kernel
theorem dX12_mostIn_14 : decode cX12_mostIn 14 = .ok (.iconst 0, 1) := by decide +kernel
theorem dX12_mostIn_15 : decode cX12_mostIn 15 = .ok (.istore 4, 2) := by decide +kernel
theorem dX12_mostIn_17 : decode cX12_mostIn 17 = .ok (.iconst 0, 1) := by decide +kernel
theorem dX12_mostIn_18 : decode cX12_mostIn 18 = .ok (.istore 5, 2) := by decide +kernel
theorem dX12_mostIn_20 : decode cX12_mostIn 20 = .ok (.iload 5, 2) := by decide +kernel
theorem dX12_mostIn_22 : decode cX12_mostIn 22 = .ok (.aload_n 0, 1) := by decide +kernel
theorem dX12_mostIn_23 : decode cX12_mostIn 23 = .ok (.getfield 355, 3) := by decide +kernel
theorem dX12_mostIn_26 : decode cX12_mostIn 26 = .ok (.if_icmp .ge 54, 3) := by decide +kernel
theorem dX12_mostIn_29 : decode cX12_mostIn 29 = .ok (.iload 4, 2) := by decide +kernel
theorem dX12_mostIn_31 : decode cX12_mostIn 31 = .ok (.iload_n 3, 1) := by decide +kernel
theorem dX12_mostIn_32 : decode cX12_mostIn 32 = .ok (.iload 5, 2) := by decide +kernel
theorem dX12_mostIn_34 : decode cX12_mostIn 34 = .ok (.ishr, 1) := by decide +kernel
theorem dX12_mostIn_35 : decode cX12_mostIn 35 = .ok (.iconst 1, 1) := by decide +kernel
theorem dX12_mostIn_36 : decode cX12_mostIn 36 = .ok (.iand, 1) := by decide +kernel
theorem dX12_mostIn_37 : decode cX12_mostIn 37 = .ok (.iconst 1, 1) := by decide +kernel
theorem dX12_mostIn_38 : decode cX12_mostIn 38 = .ok (.if_icmp .ne 7, 3) := by decide +kernel
theorem dX12_mostIn_41 : decode cX12_mostIn 41 = .ok (.iconst 0, 1) := by decide +kernel
theorem dX12_mostIn_42 : decode cX12_mostIn 42 = .ok (.goto 29, 3) := by decide +kernel
theorem dX12_mostIn_45 : decode cX12_mostIn 45 = .ok (.aload_n 0, 1) := by decide +kernel
theorem dX12_mostIn_46 : decode cX12_mostIn 46 = .ok (.getfield 267, 3) := by decide +kernel
theorem dX12_mostIn_49 : decode cX12_mostIn 49 = .ok (.iload 5, 2) := by decide +kernel
theorem dX12_mostIn_51 : decode cX12_mostIn 51 = .ok (.iaload, 1) := by decide +kernel
theorem dX12_mostIn_52 : decode cX12_mostIn 52 = .ok (.aload_n 0, 1) := by decide +kernel
theorem dX12_mostIn_53 : decode cX12_mostIn 53 = .ok (.getfield 228, 3) := by decide +kernel
theorem dX12_mostIn_56 : decode cX12_mostIn 56 = .ok (.iload 5, 2) := by decide +kernel
theorem dX12_mostIn_58 : decode cX12_mostIn 58 = .ok (.iaload, 1) := by decide +kernel
theorem dX12_mostIn_59 : decode cX12_mostIn 59 = .ok (.aload_n 0, 1) := by decide +kernel
theorem dX12_mostIn_60 : decode cX12_mostIn 60 = .ok (.getfield 219, 3) := by decide +kernel
theorem dX12_mostIn_63 : decode cX12_mostIn 63 = .ok (.iconst 3, 1) := by decide +kernel
theorem dX12_mostIn_64 : decode cX12_mostIn 64 = .ok (.iaload, 1) := by decide +kernel
theorem dX12_mostIn_65 : decode cX12_mostIn 65 = .ok (.imul, 1) := by decide +kernel
theorem dX12_mostIn_66 : decode cX12_mostIn 66 = .ok (.iload_n 1, 1) := by decide +kernel
theorem dX12_mostIn_67 : decode cX12_mostIn 67 = .ok (.imul, 1) := by decide +kernel
theorem dX12_mostIn_68 : decode cX12_mostIn 68 = .ok (.invokestatic 433, 3) := by decide +kernel
theorem dX12_mostIn_71 : decode cX12_mostIn 71 = .ok (.iadd, 1) := by decide +kernel
theorem dX12_mostIn_72 : decode cX12_mostIn 72 = .ok (.istore 4, 2) := by decide +kernel
theorem dX12_mostIn_74 : decode cX12_mostIn 74 = .ok (.iinc 5 1, 3) := by decide +kernel
theorem dX12_mostIn_77 : decode cX12_mostIn 77 = .ok (.goto (-57), 3) := by decide +kernel
theorem dX12_mostIn_80 : decode cX12_mostIn 80 = .ok (.iconst 0, 1) := by decide +kernel
theorem dX12_mostIn_81 : decode cX12_mostIn 81 = .ok (.istore 5, 2) := by decide +kernel
theorem dX12_mostIn_83 : decode cX12_mostIn 83 = .ok (.iload 5, 2) := by decide +kernel
theorem dX12_mostIn_85 : decode cX12_mostIn 85 = .ok (.aload_n 0, 1) := by decide +kernel
theorem dX12_mostIn_86 : decode cX12_mostIn 86 = .ok (.getfield 358, 3) := by decide +kernel
theorem dX12_mostIn_89 : decode cX12_mostIn 89 = .ok (.if_icmp .ge 104, 3) := by decide +kernel
theorem dX12_mostIn_92 : decode cX12_mostIn 92 = .ok (.iconst 0, 1) := by decide +kernel
theorem dX12_mostIn_93 : decode cX12_mostIn 93 = .ok (.istore 6, 2) := by decide +kernel
theorem dX12_mostIn_95 : decode cX12_mostIn 95 = .ok (.iconst 0, 1) := by decide +kernel
theorem dX12_mostIn_96 : decode cX12_mostIn 96 = .ok (.istore 7, 2) := by decide +kernel
theorem dX12_mostIn_98 : decode cX12_mostIn 98 = .ok (.iload 7, 2) := by decide +kernel
theorem dX12_mostIn_100 : decode cX12_mostIn 100 = .ok (.aload_n 0, 1) := by decide +kernel
theorem dX12_mostIn_101 : decode cX12_mostIn 101 = .ok (.getfield 355, 3) := by decide +kernel
theorem dX12_mostIn_104 : decode cX12_mostIn 104 = .ok (.if_icmp .ge 42, 3) := by decide +kernel
theorem dX12_mostIn_107 : decode cX12_mostIn 107 = .ok (.iload 6, 2) := by decide +kernel
theorem dX12_mostIn_109 : decode cX12_mostIn 109 = .ok (.ifCond .ne 24, 3) := by decide +kernel
theorem dX12_mostIn_112 : decode cX12_mostIn 112 = .ok (.iload_n 3, 1) := by decide +kernel
theorem dX12_mostIn_113 : decode cX12_mostIn 113 = .ok (.iload 7, 2) := by decide +kernel
theorem dX12_mostIn_115 : decode cX12_mostIn 115 = .ok (.ishr, 1) := by decide +kernel
theorem dX12_mostIn_116 : decode cX12_mostIn 116 = .ok (.iconst 1, 1) := by decide +kernel
theorem dX12_mostIn_117 : decode cX12_mostIn 117 = .ok (.iand, 1) := by decide +kernel
theorem dX12_mostIn_118 : decode cX12_mostIn 118 = .ok (.iconst 1, 1) := by decide +kernel
theorem dX12_mostIn_119 : decode cX12_mostIn 119 = .ok (.if_icmp .ne 18, 3) := by decide +kernel
theorem dX12_mostIn_122 : decode cX12_mostIn 122 = .ok (.aload_n 0, 1) := by decide +kernel
theorem dX12_mostIn_123 : decode cX12_mostIn 123 = .ok (.iload 7, 2) := by decide +kernel
theorem dX12_mostIn_125 : decode cX12_mostIn 125 = .ok (.iload 5, 2) := by decide +kernel
theorem dX12_mostIn_127 : decode cX12_mostIn 127 = .ok (.invokevirtual 449, 3) := by decide +kernel
theorem dX12_mostIn_130 : decode cX12_mostIn 130 = .ok (.ifCond .eq 7, 3) := by decide +kernel
theorem dX12_mostIn_133 : decode cX12_mostIn 133 = .ok (.iconst 1, 1) := by decide +kernel
theorem dX12_mostIn_134 : decode cX12_mostIn 134 = .ok (.goto 4, 3) := by decide +kernel
theorem dX12_mostIn_137 : decode cX12_mostIn 137 = .ok (.iconst 0, 1) := by decide +kernel
theorem dX12_mostIn_138 : decode cX12_mostIn 138 = .ok (.istore 6, 2) := by decide +kernel
theorem dX12_mostIn_140 : decode cX12_mostIn 140 = .ok (.iinc 7 1, 3) := by decide +kernel
theorem dX12_mostIn_143 : decode cX12_mostIn 143 = .ok (.goto (-45), 3) := by decide +kernel
theorem dX12_mostIn_146 : decode cX12_mostIn 146 = .ok (.iload 4, 2) := by decide +kernel
theorem dX12_mostIn_148 : decode cX12_mostIn 148 = .ok (.iload 6, 2) := by decide +kernel
theorem dX12_mostIn_150 : decode cX12_mostIn 150 = .ok (.ifCond .eq 33, 3) := by decide +kernel
theorem dX12_mostIn_153 : decode cX12_mostIn 153 = .ok (.aload_n 0, 1) := by decide +kernel
theorem dX12_mostIn_154 : decode cX12_mostIn 154 = .ok (.getfield 239, 3) := by decide +kernel
theorem dX12_mostIn_157 : decode cX12_mostIn 157 = .ok (.iload 5, 2) := by decide +kernel
theorem dX12_mostIn_159 : decode cX12_mostIn 159 = .ok (.iaload, 1) := by decide +kernel
theorem dX12_mostIn_160 : decode cX12_mostIn 160 = .ok (.iload_n 1, 1) := by decide +kernel
theorem dX12_mostIn_161 : decode cX12_mostIn 161 = .ok (.imul, 1) := by decide +kernel
theorem dX12_mostIn_162 : decode cX12_mostIn 162 = .ok (.aload_n 0, 1) := by decide +kernel
theorem dX12_mostIn_163 : decode cX12_mostIn 163 = .ok (.getfield 242, 3) := by decide +kernel
theorem dX12_mostIn_166 : decode cX12_mostIn 166 = .ok (.iload 5, 2) := by decide +kernel
theorem dX12_mostIn_168 : decode cX12_mostIn 168 = .ok (.iaload, 1) := by decide +kernel
theorem dX12_mostIn_169 : decode cX12_mostIn 169 = .ok (.aload_n 0, 1) := by decide +kernel
theorem dX12_mostIn_170 : decode cX12_mostIn 170 = .ok (.getfield 269, 3) := by decide +kernel
theorem dX12_mostIn_173 : decode cX12_mostIn 173 = .ok (.iload 5, 2) := by decide +kernel
theorem dX12_mostIn_175 : decode cX12_mostIn 175 = .ok (.iaload, 1) := by decide +kernel
theorem dX12_mostIn_176 : decode cX12_mostIn 176 = .ok (.isub, 1) := by decide +kernel
theorem dX12_mostIn_177 : decode cX12_mostIn 177 = .ok (.invokestatic 433, 3) := by decide +kernel
theorem dX12_mostIn_180 : decode cX12_mostIn 180 = .ok (.goto 4, 3) := by decide +kernel
theorem dX12_mostIn_183 : decode cX12_mostIn 183 = .ok (.iconst 0, 1) := by decide +kernel
theorem dX12_mostIn_184 : decode cX12_mostIn 184 = .ok (.iadd, 1) := by decide +kernel
theorem dX12_mostIn_185 : decode cX12_mostIn 185 = .ok (.istore 4, 2) := by decide +kernel
theorem dX12_mostIn_187 : decode cX12_mostIn 187 = .ok (.iinc 5 1, 3) := by decide +kernel
theorem dX12_mostIn_190 : decode cX12_mostIn 190 = .ok (.goto (-107), 3) := by decide +kernel
theorem dX12_mostIn_193 : decode cX12_mostIn 193 = .ok (.iload_n 2, 1) := by decide +kernel
theorem dX12_mostIn_194 : decode cX12_mostIn 194 = .ok (.iconst (-1), 1) := by decide +kernel
theorem dX12_mostIn_195 : decode cX12_mostIn 195 = .ok (.if_icmp .ne 8, 3) := by decide +kernel
theorem dX12_mostIn_198 : decode cX12_mostIn 198 = .ok (.iload 4, 2) := by decide +kernel
theorem dX12_mostIn_200 : decode cX12_mostIn 200 = .ok (.goto 9, 3) := by decide +kernel
theorem dX12_mostIn_203 : decode cX12_mostIn 203 = .ok (.iload_n 2, 1) := by decide +kernel
theorem dX12_mostIn_204 : decode cX12_mostIn 204 = .ok (.iload 4, 2) := by decide +kernel
theorem dX12_mostIn_206 : decode cX12_mostIn 206 = .ok (.invokestatic 433, 3) := by decide +kernel
theorem dX12_mostIn_209 : decode cX12_mostIn 209 = .ok (.istore_n 2, 1) := by decide +kernel
theorem dX12_mostIn_210 : decode cX12_mostIn 210 = .ok (.iinc 3 1, 3) := by decide +kernel
theorem dX12_mostIn_213 : decode cX12_mostIn 213 = .ok (.goto (-209), 3) := by decide +kernel
theorem dX12_mostIn_216 : decode cX12_mostIn 216 = .ok (.iload_n 2, 1) := by decide +kernel
theorem dX12_mostIn_217 : decode cX12_mostIn 217 = .ok (.ireturn, 1) := by decide +kernel
theorem dX12_most_0 : decode cX12_most 0 = .ok (.iload_n 1, 1) := by decide +kernel
theorem dX12_most_1 : decode cX12_most 1 = .ok (.i2l, 1) := by decide +kernel
theorem dX12_most_2 : decode cX12_most 2 = .ok (.lconst 1, 1) := by decide +kernel
theorem dX12_most_3 : decode cX12_most 3 = .ok (.ldc2_w 431, 3) := by decide +kernel
theorem dX12_most_6 : decode cX12_most 6 = .ok (.invokestatic 52, 3) := by decide +kernel
theorem dX12_most_9 : decode cX12_most 9 = .ok (.ifCond .eq 11, 3) := by decide +kernel
theorem dX12_most_12 : decode cX12_most 12 = .ok (.aload_n 0, 1) := by decide +kernel
theorem dX12_most_13 : decode cX12_most 13 = .ok (.iload_n 1, 1) := by decide +kernel
theorem dX12_most_14 : decode cX12_most 14 = .ok (.invokevirtual 452, 3) := by decide +kernel
theorem dX12_most_17 : decode cX12_most 17 = .ok (.goto 5, 3) := by decide +kernel
theorem dX12_most_20 : decode cX12_most 20 = .ok (.bipush (-2), 2) := by decide +kernel
theorem dX12_most_22 : decode cX12_most 22 = .ok (.ireturn, 1) := by decide +kernel
theorem dX12_until_0 : decode cX12_until 0 = .ok (.iconst 0, 1) := by decide +kernel
theorem dX12_until_1 : decode cX12_until 1 = .ok (.istore_n 1, 1) := by decide +kernel
theorem dX12_until_2 : decode cX12_until 2 = .ok (.iconst 0, 1) := by decide +kernel
theorem dX12_until_3 : decode cX12_until 3 = .ok (.istore_n 2, 1) := by decide +kernel
theorem dX12_until_4 : decode cX12_until 4 = .ok (.iload_n 2, 1) := by decide +kernel
theorem dX12_until_5 : decode cX12_until 5 = .ok (.aload_n 0, 1) := by decide +kernel
theorem dX12_until_6 : decode cX12_until 6 = .ok (.getfield 355, 3) := by decide +kernel
theorem dX12_until_9 : decode cX12_until 9 = .ok (.if_icmp .ge 18, 3) := by decide +kernel
theorem dX12_until_12 : decode cX12_until 12 = .ok (.iload_n 1, 1) := by decide +kernel
theorem dX12_until_13 : decode cX12_until 13 = .ok (.aload_n 0, 1) := by decide +kernel
theorem dX12_until_14 : decode cX12_until 14 = .ok (.getfield 267, 3) := by decide +kernel
theorem dX12_until_17 : decode cX12_until 17 = .ok (.iload_n 2, 1) := by decide +kernel
theorem dX12_until_18 : decode cX12_until 18 = .ok (.iaload, 1) := by decide +kernel
theorem dX12_until_19 : decode cX12_until 19 = .ok (.iadd, 1) := by decide +kernel
theorem dX12_until_20 : decode cX12_until 20 = .ok (.istore_n 1, 1) := by decide +kernel
theorem dX12_until_21 : decode cX12_until 21 = .ok (.iinc 2 1, 3) := by decide +kernel
theorem dX12_until_24 : decode cX12_until 24 = .ok (.goto (-20), 3) := by decide +kernel
theorem dX12_until_27 : decode cX12_until 27 = .ok (.iconst 0, 1) := by decide +kernel
theorem dX12_until_28 : decode cX12_until 28 = .ok (.istore_n 2, 1) := by decide +kernel
theorem dX12_until_29 : decode cX12_until 29 = .ok (.iload_n 2, 1) := by decide +kernel
theorem dX12_until_30 : decode cX12_until 30 = .ok (.bipush 99, 2) := by decide +kernel
theorem dX12_until_32 : decode cX12_until 32 = .ok (.if_icmp .gt 24, 3) := by decide +kernel
theorem dX12_until_35 : decode cX12_until 35 = .ok (.iload_n 1, 1) := by decide +kernel
theorem dX12_until_36 : decode cX12_until 36 = .ok (.ifCond .eq 12, 3) := by decide +kernel
theorem dX12_until_39 : decode cX12_until 39 = .ok (.aload_n 0, 1) := by decide +kernel
theorem dX12_until_40 : decode cX12_until 40 = .ok (.iload_n 2, 1) := by decide +kernel
theorem dX12_until_41 : decode cX12_until 41 = .ok (.invokevirtual 452, 3) := by decide +kernel
theorem dX12_until_44 : decode cX12_until 44 = .ok (.iload_n 1, 1) := by decide +kernel
theorem dX12_until_45 : decode cX12_until 45 = .ok (.if_icmp .ne 5, 3) := by decide +kernel
theorem dX12_until_48 : decode cX12_until 48 = .ok (.iload_n 2, 1) := by decide +kernel
theorem dX12_until_49 : decode cX12_until 49 = .ok (.ireturn, 1) := by decide +kernel
theorem dX12_until_50 : decode cX12_until 50 = .ok (.iinc 2 1, 3) := by decide +kernel
theorem dX12_until_53 : decode cX12_until 53 = .ok (.goto (-24), 3) := by decide +kernel
theorem dX12_until_56 : decode cX12_until 56 = .ok (.iconst (-1), 1) := by decide +kernel
theorem dX12_until_57 : decode cX12_until 57 = .ok (.ireturn, 1) := by decide +kernel
theorem dX12_isSlot_0 : decode cX12_isSlot 0 = .ok (.iload_n 0, 1) := by decide +kernel
theorem dX12_isSlot_1 : decode cX12_isSlot 1 = .ok (.i2l, 1) := by decide +kernel
theorem dX12_isSlot_2 : decode cX12_isSlot 2 = .ok (.lconst 0, 1) := by decide +kernel
theorem dX12_isSlot_3 : decode cX12_isSlot 3 = .ok (.lconst 1, 1) := by decide +kernel
theorem dX12_isSlot_4 : decode cX12_isSlot 4 = .ok (.invokestatic 52, 3) := by decide +kernel
theorem dX12_isSlot_7 : decode cX12_isSlot 7 = .ok (.ireturn, 1) := by decide +kernel
theorem dX12_allFeet_0 : decode cX12_allFeet 0 = .ok (.iconst 0, 1) := by decide +kernel
theorem dX12_allFeet_1 : decode cX12_allFeet 1 = .ok (.istore_n 1, 1) := by decide +kernel
theorem dX12_allFeet_2 : decode cX12_allFeet 2 = .ok (.iconst 0, 1) := by decide +kernel
theorem dX12_allFeet_3 : decode cX12_allFeet 3 = .ok (.istore_n 2, 1) := by decide +kernel
theorem dX12_allFeet_4 : decode cX12_allFeet 4 = .ok (.iload_n 2, 1) := by decide +kernel
theorem dX12_allFeet_5 : decode cX12_allFeet 5 = .ok (.aload_n 0, 1) := by decide +kernel
theorem dX12_allFeet_6 : decode cX12_allFeet 6 = .ok (.getfield 370, 3) := by decide +kernel
theorem dX12_allFeet_9 : decode cX12_allFeet 9 = .ok (.if_icmp .ge 18, 3) := by decide +kernel
theorem dX12_allFeet_12 : decode cX12_allFeet 12 = .ok (.iload_n 1, 1) := by decide +kernel
theorem dX12_allFeet_13 : decode cX12_allFeet 13 = .ok (.aload_n 0, 1) := by decide +kernel
theorem dX12_allFeet_14 : decode cX12_allFeet 14 = .ok (.getfield 255, 3) := by decide +kernel
theorem dX12_allFeet_17 : decode cX12_allFeet 17 = .ok (.iload_n 2, 1) := by decide +kernel
theorem dX12_allFeet_18 : decode cX12_allFeet 18 = .ok (.iaload, 1) := by decide +kernel
theorem dX12_allFeet_19 : decode cX12_allFeet 19 = .ok (.iadd, 1) := by decide +kernel
theorem dX12_allFeet_20 : decode cX12_allFeet 20 = .ok (.istore_n 1, 1) := by decide +kernel
theorem dX12_allFeet_21 : decode cX12_allFeet 21 = .ok (.iinc 2 1, 3) := by decide +kernel
theorem dX12_allFeet_24 : decode cX12_allFeet 24 = .ok (.goto (-20), 3) := by decide +kernel
theorem dX12_allFeet_27 : decode cX12_allFeet 27 = .ok (.iload_n 1, 1) := by decide +kernel
theorem dX12_allFeet_28 : decode cX12_allFeet 28 = .ok (.ireturn, 1) := by decide +kernel
theorem dX12_keep_0 : decode cX12_keep 0 = .ok (.iload_n 1, 1) := by decide +kernel
theorem dX12_keep_1 : decode cX12_keep 1 = .ok (.invokestatic 455, 3) := by decide +kernel
theorem dX12_keep_4 : decode cX12_keep 4 = .ok (.ifCond .ne 6, 3) := by decide +kernel
theorem dX12_keep_7 : decode cX12_keep 7 = .ok (.bipush (-2), 2) := by decide +kernel
theorem dX12_keep_9 : decode cX12_keep 9 = .ok (.ireturn, 1) := by decide +kernel
theorem dX12_keep_10 : decode cX12_keep 10 = .ok (.bipush 26, 2) := by decide +kernel
theorem dX12_keep_12 : decode cX12_keep 12 = .ok (.iload_n 1, 1) := by decide +kernel
theorem dX12_keep_13 : decode cX12_keep 13 = .ok (.imul, 1) := by decide +kernel
theorem dX12_keep_14 : decode cX12_keep 14 = .ok (.istore_n 2, 1) := by decide +kernel
theorem dX12_keep_15 : decode cX12_keep 15 = .ok (.iconst 0, 1) := by decide +kernel
theorem dX12_keep_16 : decode cX12_keep 16 = .ok (.istore_n 3, 1) := by decide +kernel
theorem dX12_keep_17 : decode cX12_keep 17 = .ok (.iload_n 3, 1) := by decide +kernel
theorem dX12_keep_18 : decode cX12_keep 18 = .ok (.iconst 3, 1) := by decide +kernel
theorem dX12_keep_19 : decode cX12_keep 19 = .ok (.if_icmp .ge 97, 3) := by decide +kernel
theorem dX12_keep_22 : decode cX12_keep 22 = .ok (.aload_n 0, 1) := by decide +kernel
theorem dX12_keep_23 : decode cX12_keep 23 = .ok (.getfield 272, 3) := by decide +kernel
theorem dX12_keep_26 : decode cX12_keep 26 = .ok (.iload_n 2, 1) := by decide +kernel
theorem dX12_keep_27 : decode cX12_keep 27 = .ok (.iconst 5, 1) := by decide +kernel
theorem dX12_keep_28 : decode cX12_keep 28 = .ok (.iload_n 3, 1) := by decide +kernel
theorem dX12_keep_29 : decode cX12_keep 29 = .ok (.imul, 1) := by decide +kernel
theorem dX12_keep_30 : decode cX12_keep 30 = .ok (.iadd, 1) := by decide +kernel
theorem dX12_keep_31 : decode cX12_keep 31 = .ok (.aload_n 0, 1) := by decide +kernel
theorem dX12_keep_32 : decode cX12_keep 32 = .ok (.getfield 252, 3) := by decide +kernel
theorem dX12_keep_35 : decode cX12_keep 35 = .ok (.iload_n 3, 1) := by decide +kernel
theorem dX12_keep_36 : decode cX12_keep 36 = .ok (.iaload, 1) := by decide +kernel
theorem dX12_keep_37 : decode cX12_keep 37 = .ok (.iastore, 1) := by decide +kernel
theorem dX12_keep_38 : decode cX12_keep 38 = .ok (.aload_n 0, 1) := by decide +kernel
theorem dX12_keep_39 : decode cX12_keep 39 = .ok (.getfield 272, 3) := by decide +kernel
theorem dX12_keep_42 : decode cX12_keep 42 = .ok (.iload_n 2, 1) := by decide +kernel
theorem dX12_keep_43 : decode cX12_keep 43 = .ok (.iconst 5, 1) := by decide +kernel
theorem dX12_keep_44 : decode cX12_keep 44 = .ok (.iload_n 3, 1) := by decide +kernel
theorem dX12_keep_45 : decode cX12_keep 45 = .ok (.imul, 1) := by decide +kernel
theorem dX12_keep_46 : decode cX12_keep 46 = .ok (.iadd, 1) := by decide +kernel
theorem dX12_keep_47 : decode cX12_keep 47 = .ok (.iconst 1, 1) := by decide +kernel
theorem dX12_keep_48 : decode cX12_keep 48 = .ok (.iadd, 1) := by decide +kernel
theorem dX12_keep_49 : decode cX12_keep 49 = .ok (.aload_n 0, 1) := by decide +kernel
theorem dX12_keep_50 : decode cX12_keep 50 = .ok (.getfield 255, 3) := by decide +kernel
theorem dX12_keep_53 : decode cX12_keep 53 = .ok (.iload_n 3, 1) := by decide +kernel
theorem dX12_keep_54 : decode cX12_keep 54 = .ok (.iaload, 1) := by decide +kernel
theorem dX12_keep_55 : decode cX12_keep 55 = .ok (.iastore, 1) := by decide +kernel
theorem dX12_keep_56 : decode cX12_keep 56 = .ok (.aload_n 0, 1) := by decide +kernel
theorem dX12_keep_57 : decode cX12_keep 57 = .ok (.getfield 272, 3) := by decide +kernel
theorem dX12_keep_60 : decode cX12_keep 60 = .ok (.iload_n 2, 1) := by decide +kernel
theorem dX12_keep_61 : decode cX12_keep 61 = .ok (.iconst 5, 1) := by decide +kernel
theorem dX12_keep_62 : decode cX12_keep 62 = .ok (.iload_n 3, 1) := by decide +kernel
theorem dX12_keep_63 : decode cX12_keep 63 = .ok (.imul, 1) := by decide +kernel
theorem dX12_keep_64 : decode cX12_keep 64 = .ok (.iadd, 1) := by decide +kernel
theorem dX12_keep_65 : decode cX12_keep 65 = .ok (.iconst 2, 1) := by decide +kernel
theorem dX12_keep_66 : decode cX12_keep 66 = .ok (.iadd, 1) := by decide +kernel
theorem dX12_keep_67 : decode cX12_keep 67 = .ok (.aload_n 0, 1) := by decide +kernel
theorem dX12_keep_68 : decode cX12_keep 68 = .ok (.getfield 258, 3) := by decide +kernel
theorem dX12_keep_71 : decode cX12_keep 71 = .ok (.iload_n 3, 1) := by decide +kernel
theorem dX12_keep_72 : decode cX12_keep 72 = .ok (.iaload, 1) := by decide +kernel
theorem dX12_keep_73 : decode cX12_keep 73 = .ok (.iastore, 1) := by decide +kernel
theorem dX12_keep_74 : decode cX12_keep 74 = .ok (.aload_n 0, 1) := by decide +kernel
theorem dX12_keep_75 : decode cX12_keep 75 = .ok (.getfield 272, 3) := by decide +kernel
theorem dX12_keep_78 : decode cX12_keep 78 = .ok (.iload_n 2, 1) := by decide +kernel
theorem dX12_keep_79 : decode cX12_keep 79 = .ok (.iconst 5, 1) := by decide +kernel
theorem dX12_keep_80 : decode cX12_keep 80 = .ok (.iload_n 3, 1) := by decide +kernel
theorem dX12_keep_81 : decode cX12_keep 81 = .ok (.imul, 1) := by decide +kernel
theorem dX12_keep_82 : decode cX12_keep 82 = .ok (.iadd, 1) := by decide +kernel
theorem dX12_keep_83 : decode cX12_keep 83 = .ok (.iconst 3, 1) := by decide +kernel
theorem dX12_keep_84 : decode cX12_keep 84 = .ok (.iadd, 1) := by decide +kernel
theorem dX12_keep_85 : decode cX12_keep 85 = .ok (.aload_n 0, 1) := by decide +kernel
theorem dX12_keep_86 : decode cX12_keep 86 = .ok (.getfield 261, 3) := by decide +kernel
theorem dX12_keep_89 : decode cX12_keep 89 = .ok (.iload_n 3, 1) := by decide +kernel
theorem dX12_keep_90 : decode cX12_keep 90 = .ok (.iaload, 1) := by decide +kernel
theorem dX12_keep_91 : decode cX12_keep 91 = .ok (.iastore, 1) := by decide +kernel
theorem dX12_keep_92 : decode cX12_keep 92 = .ok (.aload_n 0, 1) := by decide +kernel
theorem dX12_keep_93 : decode cX12_keep 93 = .ok (.getfield 272, 3) := by decide +kernel
theorem dX12_keep_96 : decode cX12_keep 96 = .ok (.iload_n 2, 1) := by decide +kernel
theorem dX12_keep_97 : decode cX12_keep 97 = .ok (.iconst 5, 1) := by decide +kernel
theorem dX12_keep_98 : decode cX12_keep 98 = .ok (.iload_n 3, 1) := by decide +kernel
theorem dX12_keep_99 : decode cX12_keep 99 = .ok (.imul, 1) := by decide +kernel
theorem dX12_keep_100 : decode cX12_keep 100 = .ok (.iadd, 1) := by decide +kernel
theorem dX12_keep_101 : decode cX12_keep 101 = .ok (.iconst 4, 1) := by decide +kernel
theorem dX12_keep_102 : decode cX12_keep 102 = .ok (.iadd, 1) := by decide +kernel
theorem dX12_keep_103 : decode cX12_keep 103 = .ok (.aload_n 0, 1) := by decide +kernel
theorem dX12_keep_104 : decode cX12_keep 104 = .ok (.getfield 264, 3) := by decide +kernel
theorem dX12_keep_107 : decode cX12_keep 107 = .ok (.iload_n 3, 1) := by decide +kernel
theorem dX12_keep_108 : decode cX12_keep 108 = .ok (.iaload, 1) := by decide +kernel
theorem dX12_keep_109 : decode cX12_keep 109 = .ok (.iastore, 1) := by decide +kernel
theorem dX12_keep_110 : decode cX12_keep 110 = .ok (.iinc 3 1, 3) := by decide +kernel
theorem dX12_keep_113 : decode cX12_keep 113 = .ok (.goto (-96), 3) := by decide +kernel
theorem dX12_keep_116 : decode cX12_keep 116 = .ok (.iinc 2 15, 3) := by decide +kernel
theorem dX12_keep_119 : decode cX12_keep 119 = .ok (.iconst 0, 1) := by decide +kernel
theorem dX12_keep_120 : decode cX12_keep 120 = .ok (.istore_n 3, 1) := by decide +kernel
theorem dX12_keep_121 : decode cX12_keep 121 = .ok (.iload_n 3, 1) := by decide +kernel
theorem dX12_keep_122 : decode cX12_keep 122 = .ok (.iconst 5, 1) := by decide +kernel
theorem dX12_keep_123 : decode cX12_keep 123 = .ok (.if_icmp .ge 23, 3) := by decide +kernel
theorem dX12_keep_126 : decode cX12_keep 126 = .ok (.aload_n 0, 1) := by decide +kernel
theorem dX12_keep_127 : decode cX12_keep 127 = .ok (.getfield 272, 3) := by decide +kernel
theorem dX12_keep_130 : decode cX12_keep 130 = .ok (.iload_n 2, 1) := by decide +kernel
theorem dX12_keep_131 : decode cX12_keep 131 = .ok (.iload_n 3, 1) := by decide +kernel
theorem dX12_keep_132 : decode cX12_keep 132 = .ok (.iadd, 1) := by decide +kernel
theorem dX12_keep_133 : decode cX12_keep 133 = .ok (.aload_n 0, 1) := by decide +kernel
theorem dX12_keep_134 : decode cX12_keep 134 = .ok (.getfield 267, 3) := by decide +kernel
theorem dX12_keep_137 : decode cX12_keep 137 = .ok (.iload_n 3, 1) := by decide +kernel
theorem dX12_keep_138 : decode cX12_keep 138 = .ok (.iaload, 1) := by decide +kernel
theorem dX12_keep_139 : decode cX12_keep 139 = .ok (.iastore, 1) := by decide +kernel
theorem dX12_keep_140 : decode cX12_keep 140 = .ok (.iinc 3 1, 3) := by decide +kernel
theorem dX12_keep_143 : decode cX12_keep 143 = .ok (.goto (-22), 3) := by decide +kernel
theorem dX12_keep_146 : decode cX12_keep 146 = .ok (.iconst 0, 1) := by decide +kernel
theorem dX12_keep_147 : decode cX12_keep 147 = .ok (.istore_n 3, 1) := by decide +kernel
theorem dX12_keep_148 : decode cX12_keep 148 = .ok (.iload_n 3, 1) := by decide +kernel
theorem dX12_keep_149 : decode cX12_keep 149 = .ok (.iconst 4, 1) := by decide +kernel
theorem dX12_keep_150 : decode cX12_keep 150 = .ok (.if_icmp .ge 25, 3) := by decide +kernel
theorem dX12_keep_153 : decode cX12_keep 153 = .ok (.aload_n 0, 1) := by decide +kernel
theorem dX12_keep_154 : decode cX12_keep 154 = .ok (.getfield 272, 3) := by decide +kernel
theorem dX12_keep_157 : decode cX12_keep 157 = .ok (.iload_n 2, 1) := by decide +kernel
theorem dX12_keep_158 : decode cX12_keep 158 = .ok (.iconst 5, 1) := by decide +kernel
theorem dX12_keep_159 : decode cX12_keep 159 = .ok (.iadd, 1) := by decide +kernel
theorem dX12_keep_160 : decode cX12_keep 160 = .ok (.iload_n 3, 1) := by decide +kernel
theorem dX12_keep_161 : decode cX12_keep 161 = .ok (.iadd, 1) := by decide +kernel
theorem dX12_keep_162 : decode cX12_keep 162 = .ok (.aload_n 0, 1) := by decide +kernel
theorem dX12_keep_163 : decode cX12_keep 163 = .ok (.getfield 269, 3) := by decide +kernel
theorem dX12_keep_166 : decode cX12_keep 166 = .ok (.iload_n 3, 1) := by decide +kernel
theorem dX12_keep_167 : decode cX12_keep 167 = .ok (.iaload, 1) := by decide +kernel
theorem dX12_keep_168 : decode cX12_keep 168 = .ok (.iastore, 1) := by decide +kernel
theorem dX12_keep_169 : decode cX12_keep 169 = .ok (.iinc 3 1, 3) := by decide +kernel
theorem dX12_keep_172 : decode cX12_keep 172 = .ok (.goto (-24), 3) := by decide +kernel
theorem dX12_keep_175 : decode cX12_keep 175 = .ok (.aload_n 0, 1) := by decide +kernel
theorem dX12_keep_176 : decode cX12_keep 176 = .ok (.getfield 272, 3) := by decide +kernel
theorem dX12_keep_179 : decode cX12_keep 179 = .ok (.iload_n 2, 1) := by decide +kernel
theorem dX12_keep_180 : decode cX12_keep 180 = .ok (.iconst 5, 1) := by decide +kernel
theorem dX12_keep_181 : decode cX12_keep 181 = .ok (.iadd, 1) := by decide +kernel
theorem dX12_keep_182 : decode cX12_keep 182 = .ok (.iconst 4, 1) := by decide +kernel
theorem dX12_keep_183 : decode cX12_keep 183 = .ok (.iadd, 1) := by decide +kernel
theorem dX12_keep_184 : decode cX12_keep 184 = .ok (.aload_n 0, 1) := by decide +kernel
theorem dX12_keep_185 : decode cX12_keep 185 = .ok (.getfield 373, 3) := by decide +kernel
theorem dX12_keep_188 : decode cX12_keep 188 = .ok (.iastore, 1) := by decide +kernel
theorem dX12_keep_189 : decode cX12_keep 189 = .ok (.aload_n 0, 1) := by decide +kernel
theorem dX12_keep_190 : decode cX12_keep 190 = .ok (.getfield 272, 3) := by decide +kernel
theorem dX12_keep_193 : decode cX12_keep 193 = .ok (.iload_n 2, 1) := by decide +kernel
theorem dX12_keep_194 : decode cX12_keep 194 = .ok (.iconst 5, 1) := by decide +kernel
theorem dX12_keep_195 : decode cX12_keep 195 = .ok (.iadd, 1) := by decide +kernel
theorem dX12_keep_196 : decode cX12_keep 196 = .ok (.iconst 4, 1) := by decide +kernel
theorem dX12_keep_197 : decode cX12_keep 197 = .ok (.iadd, 1) := by decide +kernel
theorem dX12_keep_198 : decode cX12_keep 198 = .ok (.iconst 1, 1) := by decide +kernel
theorem dX12_keep_199 : decode cX12_keep 199 = .ok (.iadd, 1) := by decide +kernel
theorem dX12_keep_200 : decode cX12_keep 200 = .ok (.aload_n 0, 1) := by decide +kernel
theorem dX12_keep_201 : decode cX12_keep 201 = .ok (.getfield 370, 3) := by decide +kernel
theorem dX12_keep_204 : decode cX12_keep 204 = .ok (.iastore, 1) := by decide +kernel
theorem dX12_keep_205 : decode cX12_keep 205 = .ok (.aload_n 0, 1) := by decide +kernel
theorem dX12_keep_206 : decode cX12_keep 206 = .ok (.getfield 275, 3) := by decide +kernel
theorem dX12_keep_209 : decode cX12_keep 209 = .ok (.iload_n 1, 1) := by decide +kernel
theorem dX12_keep_210 : decode cX12_keep 210 = .ok (.aload_n 0, 1) := by decide +kernel
theorem dX12_keep_211 : decode cX12_keep 211 = .ok (.getfield 248, 3) := by decide +kernel
theorem dX12_keep_214 : decode cX12_keep 214 = .ok (.lastore, 1) := by decide +kernel
theorem dX12_keep_215 : decode cX12_keep 215 = .ok (.aload_n 0, 1) := by decide +kernel
theorem dX12_keep_216 : decode cX12_keep 216 = .ok (.getfield 278, 3) := by decide +kernel
theorem dX12_keep_219 : decode cX12_keep 219 = .ok (.iload_n 1, 1) := by decide +kernel
theorem dX12_keep_220 : decode cX12_keep 220 = .ok (.iconst 1, 1) := by decide +kernel
theorem dX12_keep_221 : decode cX12_keep 221 = .ok (.bastore, 1) := by decide +kernel
theorem dX12_keep_222 : decode cX12_keep 222 = .ok (.aload_n 0, 1) := by decide +kernel
theorem dX12_keep_223 : decode cX12_keep 223 = .ok (.invokevirtual 458, 3) := by decide +kernel
theorem dX12_keep_226 : decode cX12_keep 226 = .ok (.ireturn, 1) := by decide +kernel
theorem dX12_take_0 : decode cX12_take 0 = .ok (.iload_n 1, 1) := by decide +kernel
theorem dX12_take_1 : decode cX12_take 1 = .ok (.invokestatic 455, 3) := by decide +kernel
theorem dX12_take_4 : decode cX12_take 4 = .ok (.ifCond .ne 6, 3) := by decide +kernel
theorem dX12_take_7 : decode cX12_take 7 = .ok (.bipush (-2), 2) := by decide +kernel
theorem dX12_take_9 : decode cX12_take 9 = .ok (.ireturn, 1) := by decide +kernel
theorem dX12_take_10 : decode cX12_take 10 = .ok (.aload_n 0, 1) := by decide +kernel
theorem dX12_take_11 : decode cX12_take 11 = .ok (.getfield 278, 3) := by decide +kernel
theorem dX12_take_14 : decode cX12_take 14 = .ok (.iload_n 1, 1) := by decide +kernel
theorem dX12_take_15 : decode cX12_take 15 = .ok (.baload, 1) := by decide +kernel
theorem dX12_take_16 : decode cX12_take 16 = .ok (.ifCond .ne 6, 3) := by decide +kernel
theorem dX12_take_19 : decode cX12_take 19 = .ok (.bipush (-4), 2) := by decide +kernel
theorem dX12_take_21 : decode cX12_take 21 = .ok (.ireturn, 1) := by decide +kernel
theorem dX12_take_22 : decode cX12_take 22 = .ok (.bipush 26, 2) := by decide +kernel
theorem dX12_take_24 : decode cX12_take 24 = .ok (.iload_n 1, 1) := by decide +kernel
theorem dX12_take_25 : decode cX12_take 25 = .ok (.imul, 1) := by decide +kernel
theorem dX12_take_26 : decode cX12_take 26 = .ok (.istore_n 2, 1) := by decide +kernel
theorem dX12_take_27 : decode cX12_take 27 = .ok (.iconst 0, 1) := by decide +kernel
theorem dX12_take_28 : decode cX12_take 28 = .ok (.istore_n 3, 1) := by decide +kernel
theorem dX12_take_29 : decode cX12_take 29 = .ok (.iload_n 3, 1) := by decide +kernel
theorem dX12_take_30 : decode cX12_take 30 = .ok (.iconst 3, 1) := by decide +kernel
theorem dX12_take_31 : decode cX12_take 31 = .ok (.if_icmp .ge 97, 3) := by decide +kernel
theorem dX12_take_34 : decode cX12_take 34 = .ok (.aload_n 0, 1) := by decide +kernel
theorem dX12_take_35 : decode cX12_take 35 = .ok (.getfield 252, 3) := by decide +kernel
theorem dX12_take_38 : decode cX12_take 38 = .ok (.iload_n 3, 1) := by decide +kernel
theorem dX12_take_39 : decode cX12_take 39 = .ok (.aload_n 0, 1) := by decide +kernel
theorem dX12_take_40 : decode cX12_take 40 = .ok (.getfield 272, 3) := by decide +kernel
theorem dX12_take_43 : decode cX12_take 43 = .ok (.iload_n 2, 1) := by decide +kernel
theorem dX12_take_44 : decode cX12_take 44 = .ok (.iconst 5, 1) := by decide +kernel
theorem dX12_take_45 : decode cX12_take 45 = .ok (.iload_n 3, 1) := by decide +kernel
theorem dX12_take_46 : decode cX12_take 46 = .ok (.imul, 1) := by decide +kernel
theorem dX12_take_47 : decode cX12_take 47 = .ok (.iadd, 1) := by decide +kernel
theorem dX12_take_48 : decode cX12_take 48 = .ok (.iaload, 1) := by decide +kernel
theorem dX12_take_49 : decode cX12_take 49 = .ok (.iastore, 1) := by decide +kernel
theorem dX12_take_50 : decode cX12_take 50 = .ok (.aload_n 0, 1) := by decide +kernel
theorem dX12_take_51 : decode cX12_take 51 = .ok (.getfield 255, 3) := by decide +kernel
theorem dX12_take_54 : decode cX12_take 54 = .ok (.iload_n 3, 1) := by decide +kernel
theorem dX12_take_55 : decode cX12_take 55 = .ok (.aload_n 0, 1) := by decide +kernel
theorem dX12_take_56 : decode cX12_take 56 = .ok (.getfield 272, 3) := by decide +kernel
theorem dX12_take_59 : decode cX12_take 59 = .ok (.iload_n 2, 1) := by decide +kernel
theorem dX12_take_60 : decode cX12_take 60 = .ok (.iconst 5, 1) := by decide +kernel
theorem dX12_take_61 : decode cX12_take 61 = .ok (.iload_n 3, 1) := by decide +kernel
theorem dX12_take_62 : decode cX12_take 62 = .ok (.imul, 1) := by decide +kernel
theorem dX12_take_63 : decode cX12_take 63 = .ok (.iadd, 1) := by decide +kernel
theorem dX12_take_64 : decode cX12_take 64 = .ok (.iconst 1, 1) := by decide +kernel
theorem dX12_take_65 : decode cX12_take 65 = .ok (.iadd, 1) := by decide +kernel
theorem dX12_take_66 : decode cX12_take 66 = .ok (.iaload, 1) := by decide +kernel
theorem dX12_take_67 : decode cX12_take 67 = .ok (.iastore, 1) := by decide +kernel
theorem dX12_take_68 : decode cX12_take 68 = .ok (.aload_n 0, 1) := by decide +kernel
theorem dX12_take_69 : decode cX12_take 69 = .ok (.getfield 258, 3) := by decide +kernel
theorem dX12_take_72 : decode cX12_take 72 = .ok (.iload_n 3, 1) := by decide +kernel
theorem dX12_take_73 : decode cX12_take 73 = .ok (.aload_n 0, 1) := by decide +kernel
theorem dX12_take_74 : decode cX12_take 74 = .ok (.getfield 272, 3) := by decide +kernel
theorem dX12_take_77 : decode cX12_take 77 = .ok (.iload_n 2, 1) := by decide +kernel
theorem dX12_take_78 : decode cX12_take 78 = .ok (.iconst 5, 1) := by decide +kernel
theorem dX12_take_79 : decode cX12_take 79 = .ok (.iload_n 3, 1) := by decide +kernel
theorem dX12_take_80 : decode cX12_take 80 = .ok (.imul, 1) := by decide +kernel
theorem dX12_take_81 : decode cX12_take 81 = .ok (.iadd, 1) := by decide +kernel
theorem dX12_take_82 : decode cX12_take 82 = .ok (.iconst 2, 1) := by decide +kernel
theorem dX12_take_83 : decode cX12_take 83 = .ok (.iadd, 1) := by decide +kernel
theorem dX12_take_84 : decode cX12_take 84 = .ok (.iaload, 1) := by decide +kernel
theorem dX12_take_85 : decode cX12_take 85 = .ok (.iastore, 1) := by decide +kernel
theorem dX12_take_86 : decode cX12_take 86 = .ok (.aload_n 0, 1) := by decide +kernel
theorem dX12_take_87 : decode cX12_take 87 = .ok (.getfield 261, 3) := by decide +kernel
theorem dX12_take_90 : decode cX12_take 90 = .ok (.iload_n 3, 1) := by decide +kernel
theorem dX12_take_91 : decode cX12_take 91 = .ok (.aload_n 0, 1) := by decide +kernel
theorem dX12_take_92 : decode cX12_take 92 = .ok (.getfield 272, 3) := by decide +kernel
theorem dX12_take_95 : decode cX12_take 95 = .ok (.iload_n 2, 1) := by decide +kernel
theorem dX12_take_96 : decode cX12_take 96 = .ok (.iconst 5, 1) := by decide +kernel
theorem dX12_take_97 : decode cX12_take 97 = .ok (.iload_n 3, 1) := by decide +kernel
theorem dX12_take_98 : decode cX12_take 98 = .ok (.imul, 1) := by decide +kernel
theorem dX12_take_99 : decode cX12_take 99 = .ok (.iadd, 1) := by decide +kernel
theorem dX12_take_100 : decode cX12_take 100 = .ok (.iconst 3, 1) := by decide +kernel
theorem dX12_take_101 : decode cX12_take 101 = .ok (.iadd, 1) := by decide +kernel
theorem dX12_take_102 : decode cX12_take 102 = .ok (.iaload, 1) := by decide +kernel
theorem dX12_take_103 : decode cX12_take 103 = .ok (.iastore, 1) := by decide +kernel
theorem dX12_take_104 : decode cX12_take 104 = .ok (.aload_n 0, 1) := by decide +kernel
theorem dX12_take_105 : decode cX12_take 105 = .ok (.getfield 264, 3) := by decide +kernel
theorem dX12_take_108 : decode cX12_take 108 = .ok (.iload_n 3, 1) := by decide +kernel
theorem dX12_take_109 : decode cX12_take 109 = .ok (.aload_n 0, 1) := by decide +kernel
theorem dX12_take_110 : decode cX12_take 110 = .ok (.getfield 272, 3) := by decide +kernel
theorem dX12_take_113 : decode cX12_take 113 = .ok (.iload_n 2, 1) := by decide +kernel
theorem dX12_take_114 : decode cX12_take 114 = .ok (.iconst 5, 1) := by decide +kernel
theorem dX12_take_115 : decode cX12_take 115 = .ok (.iload_n 3, 1) := by decide +kernel
theorem dX12_take_116 : decode cX12_take 116 = .ok (.imul, 1) := by decide +kernel
theorem dX12_take_117 : decode cX12_take 117 = .ok (.iadd, 1) := by decide +kernel
theorem dX12_take_118 : decode cX12_take 118 = .ok (.iconst 4, 1) := by decide +kernel
theorem dX12_take_119 : decode cX12_take 119 = .ok (.iadd, 1) := by decide +kernel
theorem dX12_take_120 : decode cX12_take 120 = .ok (.iaload, 1) := by decide +kernel
theorem dX12_take_121 : decode cX12_take 121 = .ok (.iastore, 1) := by decide +kernel
theorem dX12_take_122 : decode cX12_take 122 = .ok (.iinc 3 1, 3) := by decide +kernel
theorem dX12_take_125 : decode cX12_take 125 = .ok (.goto (-96), 3) := by decide +kernel
theorem dX12_take_128 : decode cX12_take 128 = .ok (.iinc 2 15, 3) := by decide +kernel
theorem dX12_take_131 : decode cX12_take 131 = .ok (.iconst 0, 1) := by decide +kernel
theorem dX12_take_132 : decode cX12_take 132 = .ok (.istore_n 3, 1) := by decide +kernel
theorem dX12_take_133 : decode cX12_take 133 = .ok (.iload_n 3, 1) := by decide +kernel
theorem dX12_take_134 : decode cX12_take 134 = .ok (.iconst 5, 1) := by decide +kernel
theorem dX12_take_135 : decode cX12_take 135 = .ok (.if_icmp .ge 23, 3) := by decide +kernel
theorem dX12_take_138 : decode cX12_take 138 = .ok (.aload_n 0, 1) := by decide +kernel
theorem dX12_take_139 : decode cX12_take 139 = .ok (.getfield 267, 3) := by decide +kernel
theorem dX12_take_142 : decode cX12_take 142 = .ok (.iload_n 3, 1) := by decide +kernel
theorem dX12_take_143 : decode cX12_take 143 = .ok (.aload_n 0, 1) := by decide +kernel
theorem dX12_take_144 : decode cX12_take 144 = .ok (.getfield 272, 3) := by decide +kernel
theorem dX12_take_147 : decode cX12_take 147 = .ok (.iload_n 2, 1) := by decide +kernel
theorem dX12_take_148 : decode cX12_take 148 = .ok (.iload_n 3, 1) := by decide +kernel
theorem dX12_take_149 : decode cX12_take 149 = .ok (.iadd, 1) := by decide +kernel
theorem dX12_take_150 : decode cX12_take 150 = .ok (.iaload, 1) := by decide +kernel
theorem dX12_take_151 : decode cX12_take 151 = .ok (.iastore, 1) := by decide +kernel
theorem dX12_take_152 : decode cX12_take 152 = .ok (.iinc 3 1, 3) := by decide +kernel
theorem dX12_take_155 : decode cX12_take 155 = .ok (.goto (-22), 3) := by decide +kernel
theorem dX12_take_158 : decode cX12_take 158 = .ok (.iconst 0, 1) := by decide +kernel
theorem dX12_take_159 : decode cX12_take 159 = .ok (.istore_n 3, 1) := by decide +kernel
theorem dX12_take_160 : decode cX12_take 160 = .ok (.iload_n 3, 1) := by decide +kernel
theorem dX12_take_161 : decode cX12_take 161 = .ok (.iconst 4, 1) := by decide +kernel
theorem dX12_take_162 : decode cX12_take 162 = .ok (.if_icmp .ge 25, 3) := by decide +kernel
theorem dX12_take_165 : decode cX12_take 165 = .ok (.aload_n 0, 1) := by decide +kernel
theorem dX12_take_166 : decode cX12_take 166 = .ok (.getfield 269, 3) := by decide +kernel
theorem dX12_take_169 : decode cX12_take 169 = .ok (.iload_n 3, 1) := by decide +kernel
theorem dX12_take_170 : decode cX12_take 170 = .ok (.aload_n 0, 1) := by decide +kernel
theorem dX12_take_171 : decode cX12_take 171 = .ok (.getfield 272, 3) := by decide +kernel
theorem dX12_take_174 : decode cX12_take 174 = .ok (.iload_n 2, 1) := by decide +kernel
theorem dX12_take_175 : decode cX12_take 175 = .ok (.iconst 5, 1) := by decide +kernel
theorem dX12_take_176 : decode cX12_take 176 = .ok (.iadd, 1) := by decide +kernel
theorem dX12_take_177 : decode cX12_take 177 = .ok (.iload_n 3, 1) := by decide +kernel
theorem dX12_take_178 : decode cX12_take 178 = .ok (.iadd, 1) := by decide +kernel
theorem dX12_take_179 : decode cX12_take 179 = .ok (.iaload, 1) := by decide +kernel
theorem dX12_take_180 : decode cX12_take 180 = .ok (.iastore, 1) := by decide +kernel
theorem dX12_take_181 : decode cX12_take 181 = .ok (.iinc 3 1, 3) := by decide +kernel
theorem dX12_take_184 : decode cX12_take 184 = .ok (.goto (-24), 3) := by decide +kernel
theorem dX12_take_187 : decode cX12_take 187 = .ok (.aload_n 0, 1) := by decide +kernel
theorem dX12_take_188 : decode cX12_take 188 = .ok (.aload_n 0, 1) := by decide +kernel
theorem dX12_take_189 : decode cX12_take 189 = .ok (.getfield 272, 3) := by decide +kernel
theorem dX12_take_192 : decode cX12_take 192 = .ok (.iload_n 2, 1) := by decide +kernel
theorem dX12_take_193 : decode cX12_take 193 = .ok (.iconst 5, 1) := by decide +kernel
theorem dX12_take_194 : decode cX12_take 194 = .ok (.iadd, 1) := by decide +kernel
theorem dX12_take_195 : decode cX12_take 195 = .ok (.iconst 4, 1) := by decide +kernel
theorem dX12_take_196 : decode cX12_take 196 = .ok (.iadd, 1) := by decide +kernel
theorem dX12_take_197 : decode cX12_take 197 = .ok (.iaload, 1) := by decide +kernel
theorem dX12_take_198 : decode cX12_take 198 = .ok (.putfield 373, 3) := by decide +kernel
theorem dX12_take_201 : decode cX12_take 201 = .ok (.aload_n 0, 1) := by decide +kernel
theorem dX12_take_202 : decode cX12_take 202 = .ok (.aload_n 0, 1) := by decide +kernel
theorem dX12_take_203 : decode cX12_take 203 = .ok (.getfield 272, 3) := by decide +kernel
theorem dX12_take_206 : decode cX12_take 206 = .ok (.iload_n 2, 1) := by decide +kernel
theorem dX12_take_207 : decode cX12_take 207 = .ok (.iconst 5, 1) := by decide +kernel
theorem dX12_take_208 : decode cX12_take 208 = .ok (.iadd, 1) := by decide +kernel
theorem dX12_take_209 : decode cX12_take 209 = .ok (.iconst 4, 1) := by decide +kernel
theorem dX12_take_210 : decode cX12_take 210 = .ok (.iadd, 1) := by decide +kernel
theorem dX12_take_211 : decode cX12_take 211 = .ok (.iconst 1, 1) := by decide +kernel
theorem dX12_take_212 : decode cX12_take 212 = .ok (.iadd, 1) := by decide +kernel
theorem dX12_take_213 : decode cX12_take 213 = .ok (.iaload, 1) := by decide +kernel
theorem dX12_take_214 : decode cX12_take 214 = .ok (.putfield 370, 3) := by decide +kernel
theorem dX12_take_217 : decode cX12_take 217 = .ok (.aload_n 0, 1) := by decide +kernel
theorem dX12_take_218 : decode cX12_take 218 = .ok (.aload_n 0, 1) := by decide +kernel
theorem dX12_take_219 : decode cX12_take 219 = .ok (.getfield 275, 3) := by decide +kernel
theorem dX12_take_222 : decode cX12_take 222 = .ok (.iload_n 1, 1) := by decide +kernel
theorem dX12_take_223 : decode cX12_take 223 = .ok (.laload, 1) := by decide +kernel
theorem dX12_take_224 : decode cX12_take 224 = .ok (.putfield 248, 3) := by decide +kernel
theorem dX12_take_227 : decode cX12_take 227 = .ok (.aload_n 0, 1) := by decide +kernel
theorem dX12_take_228 : decode cX12_take 228 = .ok (.invokevirtual 458, 3) := by decide +kernel
theorem dX12_take_231 : decode cX12_take 231 = .ok (.ireturn, 1) := by decide +kernel
theorem dX12_gone_0 : decode cX12_gone 0 = .ok (.aload_n 0, 1) := by decide +kernel
theorem dX12_gone_1 : decode cX12_gone 1 = .ok (.iload_n 1, 1) := by decide +kernel
theorem dX12_gone_2 : decode cX12_gone 2 = .ok (.invokevirtual 408, 3) := by decide +kernel
theorem dX12_gone_5 : decode cX12_gone 5 = .ok (.ifCond .eq 19, 3) := by decide +kernel
theorem dX12_gone_8 : decode cX12_gone 8 = .ok (.iload_n 2, 1) := by decide +kernel
theorem dX12_gone_9 : decode cX12_gone 9 = .ok (.i2l, 1) := by decide +kernel
theorem dX12_gone_10 : decode cX12_gone 10 = .ok (.lconst 0, 1) := by decide +kernel
theorem dX12_gone_11 : decode cX12_gone 11 = .ok (.aload_n 0, 1) := by decide +kernel
theorem dX12_gone_12 : decode cX12_gone 12 = .ok (.getfield 228, 3) := by decide +kernel
theorem dX12_gone_15 : decode cX12_gone 15 = .ok (.iload_n 1, 1) := by decide +kernel
theorem dX12_gone_16 : decode cX12_gone 16 = .ok (.iaload, 1) := by decide +kernel
theorem dX12_gone_17 : decode cX12_gone 17 = .ok (.i2l, 1) := by decide +kernel
theorem dX12_gone_18 : decode cX12_gone 18 = .ok (.invokestatic 52, 3) := by decide +kernel
theorem dX12_gone_21 : decode cX12_gone 21 = .ok (.ifCond .ne 6, 3) := by decide +kernel
theorem dX12_gone_24 : decode cX12_gone 24 = .ok (.bipush (-2), 2) := by decide +kernel
theorem dX12_gone_26 : decode cX12_gone 26 = .ok (.ireturn, 1) := by decide +kernel
theorem dX12_gone_27 : decode cX12_gone 27 = .ok (.aload_n 0, 1) := by decide +kernel
theorem dX12_gone_28 : decode cX12_gone 28 = .ok (.getfield 282, 3) := by decide +kernel
theorem dX12_gone_31 : decode cX12_gone 31 = .ok (.iload_n 1, 1) := by decide +kernel
theorem dX12_gone_32 : decode cX12_gone 32 = .ok (.iaload, 1) := by decide +kernel
theorem dX12_gone_33 : decode cX12_gone 33 = .ok (.istore_n 3, 1) := by decide +kernel
theorem dX12_gone_34 : decode cX12_gone 34 = .ok (.aload_n 0, 1) := by decide +kernel
theorem dX12_gone_35 : decode cX12_gone 35 = .ok (.getfield 282, 3) := by decide +kernel
theorem dX12_gone_38 : decode cX12_gone 38 = .ok (.iload_n 1, 1) := by decide +kernel
theorem dX12_gone_39 : decode cX12_gone 39 = .ok (.iload_n 2, 1) := by decide +kernel
theorem dX12_gone_40 : decode cX12_gone 40 = .ok (.iastore, 1) := by decide +kernel
theorem dX12_gone_41 : decode cX12_gone 41 = .ok (.iload_n 3, 1) := by decide +kernel
theorem dX12_gone_42 : decode cX12_gone 42 = .ok (.ireturn, 1) := by decide +kernel
theorem dX12_isCounted_0 : decode cX12_isCounted 0 = .ok (.aload_n 0, 1) := by decide +kernel
theorem dX12_isCounted_1 : decode cX12_isCounted 1 = .ok (.getfield 231, 3) := by decide +kernel
theorem dX12_isCounted_4 : decode cX12_isCounted 4 = .ok (.iload_n 1, 1) := by decide +kernel
theorem dX12_isCounted_5 : decode cX12_isCounted 5 = .ok (.iaload, 1) := by decide +kernel
theorem dX12_isCounted_6 : decode cX12_isCounted 6 = .ok (.iconst (-1), 1) := by decide +kernel
theorem dX12_isCounted_7 : decode cX12_isCounted 7 = .ok (.if_icmp .eq 7, 3) := by decide +kernel
theorem dX12_isCounted_10 : decode cX12_isCounted 10 = .ok (.iconst 1, 1) := by decide +kernel
theorem dX12_isCounted_11 : decode cX12_isCounted 11 = .ok (.goto 4, 3) := by decide +kernel
theorem dX12_isCounted_14 : decode cX12_isCounted 14 = .ok (.iconst 0, 1) := by decide +kernel
theorem dX12_isCounted_15 : decode cX12_isCounted 15 = .ok (.ireturn, 1) := by decide +kernel
theorem dX12_allGone_0 : decode cX12_allGone 0 = .ok (.iconst 0, 1) := by decide +kernel
theorem dX12_allGone_1 : decode cX12_allGone 1 = .ok (.istore_n 2, 1) := by decide +kernel
theorem dX12_allGone_2 : decode cX12_allGone 2 = .ok (.iconst 0, 1) := by decide +kernel
theorem dX12_allGone_3 : decode cX12_allGone 3 = .ok (.istore_n 3, 1) := by decide +kernel
theorem dX12_allGone_4 : decode cX12_allGone 4 = .ok (.iload_n 3, 1) := by decide +kernel
theorem dX12_allGone_5 : decode cX12_allGone 5 = .ok (.aload_n 0, 1) := by decide +kernel
theorem dX12_allGone_6 : decode cX12_allGone 6 = .ok (.getfield 355, 3) := by decide +kernel
theorem dX12_allGone_9 : decode cX12_allGone 9 = .ok (.if_icmp .ge 34, 3) := by decide +kernel
theorem dX12_allGone_12 : decode cX12_allGone 12 = .ok (.iload_n 2, 1) := by decide +kernel
theorem dX12_allGone_13 : decode cX12_allGone 13 = .ok (.iload_n 1, 1) := by decide +kernel
theorem dX12_allGone_14 : decode cX12_allGone 14 = .ok (.ifCond .eq 11, 3) := by decide +kernel
theorem dX12_allGone_17 : decode cX12_allGone 17 = .ok (.aload_n 0, 1) := by decide +kernel
theorem dX12_allGone_18 : decode cX12_allGone 18 = .ok (.iload_n 3, 1) := by decide +kernel
theorem dX12_allGone_19 : decode cX12_allGone 19 = .ok (.invokevirtual 461, 3) := by decide +kernel
theorem dX12_allGone_22 : decode cX12_allGone 22 = .ok (.ifCond .eq 12, 3) := by decide +kernel
theorem dX12_allGone_25 : decode cX12_allGone 25 = .ok (.aload_n 0, 1) := by decide +kernel
theorem dX12_allGone_26 : decode cX12_allGone 26 = .ok (.getfield 282, 3) := by decide +kernel
theorem dX12_allGone_29 : decode cX12_allGone 29 = .ok (.iload_n 3, 1) := by decide +kernel
theorem dX12_allGone_30 : decode cX12_allGone 30 = .ok (.iaload, 1) := by decide +kernel
theorem dX12_allGone_31 : decode cX12_allGone 31 = .ok (.goto 4, 3) := by decide +kernel
theorem dX12_allGone_34 : decode cX12_allGone 34 = .ok (.iconst 0, 1) := by decide +kernel
theorem dX12_allGone_35 : decode cX12_allGone 35 = .ok (.iadd, 1) := by decide +kernel
theorem dX12_allGone_36 : decode cX12_allGone 36 = .ok (.istore_n 2, 1) := by decide +kernel
theorem dX12_allGone_37 : decode cX12_allGone 37 = .ok (.iinc 3 1, 3) := by decide +kernel
theorem dX12_allGone_40 : decode cX12_allGone 40 = .ok (.goto (-36), 3) := by decide +kernel
theorem dX12_allGone_43 : decode cX12_allGone 43 = .ok (.iload_n 2, 1) := by decide +kernel
theorem dX12_allGone_44 : decode cX12_allGone 44 = .ok (.ireturn, 1) := by decide +kernel
theorem dX12_canRun_0 : decode cX12_canRun 0 = .ok (.aload_n 0, 1) := by decide +kernel
theorem dX12_canRun_1 : decode cX12_canRun 1 = .ok (.getfield 285, 3) := by decide +kernel
theorem dX12_canRun_4 : decode cX12_canRun 4 = .ok (.iload_n 2, 1) := by decide +kernel
theorem dX12_canRun_5 : decode cX12_canRun 5 = .ok (.iaload, 1) := by decide +kernel
theorem dX12_canRun_6 : decode cX12_canRun 6 = .ok (.aload_n 0, 1) := by decide +kernel
theorem dX12_canRun_7 : decode cX12_canRun 7 = .ok (.getfield 285, 3) := by decide +kernel
theorem dX12_canRun_10 : decode cX12_canRun 10 = .ok (.iload_n 1, 1) := by decide +kernel
theorem dX12_canRun_11 : decode cX12_canRun 11 = .ok (.iaload, 1) := by decide +kernel
theorem dX12_canRun_12 : decode cX12_canRun 12 = .ok (.if_icmp .gt 23, 3) := by decide +kernel
theorem dX12_canRun_15 : decode cX12_canRun 15 = .ok (.aload_n 0, 1) := by decide +kernel
theorem dX12_canRun_16 : decode cX12_canRun 16 = .ok (.getfield 285, 3) := by decide +kernel
theorem dX12_canRun_19 : decode cX12_canRun 19 = .ok (.iload_n 2, 1) := by decide +kernel
theorem dX12_canRun_20 : decode cX12_canRun 20 = .ok (.iaload, 1) := by decide +kernel
theorem dX12_canRun_21 : decode cX12_canRun 21 = .ok (.aload_n 0, 1) := by decide +kernel
theorem dX12_canRun_22 : decode cX12_canRun 22 = .ok (.getfield 285, 3) := by decide +kernel
theorem dX12_canRun_25 : decode cX12_canRun 25 = .ok (.iload_n 1, 1) := by decide +kernel
theorem dX12_canRun_26 : decode cX12_canRun 26 = .ok (.iaload, 1) := by decide +kernel
theorem dX12_canRun_27 : decode cX12_canRun 27 = .ok (.if_icmp .ne 12, 3) := by decide +kernel
theorem dX12_canRun_30 : decode cX12_canRun 30 = .ok (.iload_n 2, 1) := by decide +kernel
theorem dX12_canRun_31 : decode cX12_canRun 31 = .ok (.iload_n 1, 1) := by decide +kernel
theorem dX12_canRun_32 : decode cX12_canRun 32 = .ok (.if_icmp .le 7, 3) := by decide +kernel
theorem dX12_canRun_35 : decode cX12_canRun 35 = .ok (.iconst 1, 1) := by decide +kernel
theorem dX12_canRun_36 : decode cX12_canRun 36 = .ok (.goto 4, 3) := by decide +kernel
theorem dX12_canRun_39 : decode cX12_canRun 39 = .ok (.iconst 0, 1) := by decide +kernel
theorem dX12_canRun_40 : decode cX12_canRun 40 = .ok (.istore_n 3, 1) := by decide +kernel
theorem dX12_canRun_41 : decode cX12_canRun 41 = .ok (.iload_n 3, 1) := by decide +kernel
theorem dX12_canRun_42 : decode cX12_canRun 42 = .ok (.ifCond .eq 33, 3) := by decide +kernel
theorem dX12_canRun_45 : decode cX12_canRun 45 = .ok (.aload_n 0, 1) := by decide +kernel
theorem dX12_canRun_46 : decode cX12_canRun 46 = .ok (.getfield 285, 3) := by decide +kernel
theorem dX12_canRun_49 : decode cX12_canRun 49 = .ok (.iload_n 2, 1) := by decide +kernel
theorem dX12_canRun_50 : decode cX12_canRun 50 = .ok (.iaload, 1) := by decide +kernel
theorem dX12_canRun_51 : decode cX12_canRun 51 = .ok (.aload_n 0, 1) := by decide +kernel
theorem dX12_canRun_52 : decode cX12_canRun 52 = .ok (.getfield 285, 3) := by decide +kernel
theorem dX12_canRun_55 : decode cX12_canRun 55 = .ok (.iload_n 1, 1) := by decide +kernel
theorem dX12_canRun_56 : decode cX12_canRun 56 = .ok (.iaload, 1) := by decide +kernel
theorem dX12_canRun_57 : decode cX12_canRun 57 = .ok (.isub, 1) := by decide +kernel
theorem dX12_canRun_58 : decode cX12_canRun 58 = .ok (.aload_n 0, 1) := by decide +kernel
theorem dX12_canRun_59 : decode cX12_canRun 59 = .ok (.getfield 234, 3) := by decide +kernel
theorem dX12_canRun_62 : decode cX12_canRun 62 = .ok (.iconst 5, 1) := by decide +kernel
theorem dX12_canRun_63 : decode cX12_canRun 63 = .ok (.iload_n 1, 1) := by decide +kernel
theorem dX12_canRun_64 : decode cX12_canRun 64 = .ok (.imul, 1) := by decide +kernel
theorem dX12_canRun_65 : decode cX12_canRun 65 = .ok (.iload_n 2, 1) := by decide +kernel
theorem dX12_canRun_66 : decode cX12_canRun 66 = .ok (.iadd, 1) := by decide +kernel
theorem dX12_canRun_67 : decode cX12_canRun 67 = .ok (.iaload, 1) := by decide +kernel
theorem dX12_canRun_68 : decode cX12_canRun 68 = .ok (.if_icmp .lt 7, 3) := by decide +kernel
theorem dX12_canRun_71 : decode cX12_canRun 71 = .ok (.iconst 1, 1) := by decide +kernel
theorem dX12_canRun_72 : decode cX12_canRun 72 = .ok (.goto 4, 3) := by decide +kernel
theorem dX12_canRun_75 : decode cX12_canRun 75 = .ok (.iconst 0, 1) := by decide +kernel
theorem dX12_canRun_76 : decode cX12_canRun 76 = .ok (.ireturn, 1) := by decide +kernel
theorem dX12_giveTo_0 : decode cX12_giveTo 0 = .ok (.iconst 0, 1) := by decide +kernel
theorem dX12_giveTo_1 : decode cX12_giveTo 1 = .ok (.istore_n 3, 1) := by decide +kernel
theorem dX12_giveTo_2 : decode cX12_giveTo 2 = .ok (.iload_n 3, 1) := by decide +kernel
theorem dX12_giveTo_3 : decode cX12_giveTo 3 = .ok (.aload_n 0, 1) := by decide +kernel
theorem dX12_giveTo_4 : decode cX12_giveTo 4 = .ok (.getfield 464, 3) := by decide +kernel
theorem dX12_giveTo_7 : decode cX12_giveTo 7 = .ok (.if_icmp .ge 87, 3) := by decide +kernel
theorem dX12_giveTo_10 : decode cX12_giveTo 10 = .ok (.aload_n 0, 1) := by decide +kernel
theorem dX12_giveTo_11 : decode cX12_giveTo 11 = .ok (.getfield 297, 3) := by decide +kernel
theorem dX12_giveTo_14 : decode cX12_giveTo 14 = .ok (.iload_n 3, 1) := by decide +kernel
theorem dX12_giveTo_15 : decode cX12_giveTo 15 = .ok (.baload, 1) := by decide +kernel
theorem dX12_giveTo_16 : decode cX12_giveTo 16 = .ok (.ifCond .ne 72, 3) := by decide +kernel
theorem dX12_giveTo_19 : decode cX12_giveTo 19 = .ok (.aload_n 0, 1) := by decide +kernel
theorem dX12_giveTo_20 : decode cX12_giveTo 20 = .ok (.aload_n 0, 1) := by decide +kernel
theorem dX12_giveTo_21 : decode cX12_giveTo 21 = .ok (.getfield 288, 3) := by decide +kernel
theorem dX12_giveTo_24 : decode cX12_giveTo 24 = .ok (.iload_n 3, 1) := by decide +kernel
theorem dX12_giveTo_25 : decode cX12_giveTo 25 = .ok (.iaload, 1) := by decide +kernel
theorem dX12_giveTo_26 : decode cX12_giveTo 26 = .ok (.aload_n 0, 1) := by decide +kernel
theorem dX12_giveTo_27 : decode cX12_giveTo 27 = .ok (.getfield 288, 3) := by decide +kernel
theorem dX12_giveTo_30 : decode cX12_giveTo 30 = .ok (.iload_n 1, 1) := by decide +kernel
theorem dX12_giveTo_31 : decode cX12_giveTo 31 = .ok (.iaload, 1) := by decide +kernel
theorem dX12_giveTo_32 : decode cX12_giveTo 32 = .ok (.invokevirtual 467, 3) := by decide +kernel
theorem dX12_giveTo_35 : decode cX12_giveTo 35 = .ok (.ifCond .ne 6, 3) := by decide +kernel
theorem dX12_giveTo_38 : decode cX12_giveTo 38 = .ok (.goto 50, 3) := by decide +kernel
theorem dX12_giveTo_41 : decode cX12_giveTo 41 = .ok (.aload_n 0, 1) := by decide +kernel
theorem dX12_giveTo_42 : decode cX12_giveTo 42 = .ok (.getfield 297, 3) := by decide +kernel
theorem dX12_giveTo_45 : decode cX12_giveTo 45 = .ok (.iload_n 3, 1) := by decide +kernel
theorem dX12_giveTo_46 : decode cX12_giveTo 46 = .ok (.iconst 1, 1) := by decide +kernel
theorem dX12_giveTo_47 : decode cX12_giveTo 47 = .ok (.bastore, 1) := by decide +kernel
theorem dX12_giveTo_48 : decode cX12_giveTo 48 = .ok (.aload_n 0, 1) := by decide +kernel
theorem dX12_giveTo_49 : decode cX12_giveTo 49 = .ok (.getfield 300, 3) := by decide +kernel
theorem dX12_giveTo_52 : decode cX12_giveTo 52 = .ok (.iload_n 3, 1) := by decide +kernel
theorem dX12_giveTo_53 : decode cX12_giveTo 53 = .ok (.iaload, 1) := by decide +kernel
theorem dX12_giveTo_54 : decode cX12_giveTo 54 = .ok (.iconst (-1), 1) := by decide +kernel
theorem dX12_giveTo_55 : decode cX12_giveTo 55 = .ok (.if_icmp .eq 17, 3) := by decide +kernel
theorem dX12_giveTo_58 : decode cX12_giveTo 58 = .ok (.aload_n 0, 1) := by decide +kernel
theorem dX12_giveTo_59 : decode cX12_giveTo 59 = .ok (.aload_n 0, 1) := by decide +kernel
theorem dX12_giveTo_60 : decode cX12_giveTo 60 = .ok (.getfield 300, 3) := by decide +kernel
theorem dX12_giveTo_63 : decode cX12_giveTo 63 = .ok (.iload_n 3, 1) := by decide +kernel
theorem dX12_giveTo_64 : decode cX12_giveTo 64 = .ok (.iaload, 1) := by decide +kernel
theorem dX12_giveTo_65 : decode cX12_giveTo 65 = .ok (.iload_n 2, 1) := by decide +kernel
theorem dX12_giveTo_66 : decode cX12_giveTo 66 = .ok (.invokevirtual 470, 3) := by decide +kernel
theorem dX12_giveTo_69 : decode cX12_giveTo 69 = .ok (.ifCond .eq 19, 3) := by decide +kernel
theorem dX12_giveTo_72 : decode cX12_giveTo 72 = .ok (.aload_n 0, 1) := by decide +kernel
theorem dX12_giveTo_73 : decode cX12_giveTo 73 = .ok (.getfield 300, 3) := by decide +kernel
theorem dX12_giveTo_76 : decode cX12_giveTo 76 = .ok (.iload_n 3, 1) := by decide +kernel
theorem dX12_giveTo_77 : decode cX12_giveTo 77 = .ok (.iload_n 1, 1) := by decide +kernel
theorem dX12_giveTo_78 : decode cX12_giveTo 78 = .ok (.iastore, 1) := by decide +kernel
theorem dX12_giveTo_79 : decode cX12_giveTo 79 = .ok (.aload_n 0, 1) := by decide +kernel
theorem dX12_giveTo_80 : decode cX12_giveTo 80 = .ok (.getfield 291, 3) := by decide +kernel
theorem dX12_giveTo_83 : decode cX12_giveTo 83 = .ok (.iload_n 1, 1) := by decide +kernel
theorem dX12_giveTo_84 : decode cX12_giveTo 84 = .ok (.iload_n 3, 1) := by decide +kernel
theorem dX12_giveTo_85 : decode cX12_giveTo 85 = .ok (.iastore, 1) := by decide +kernel
theorem dX12_giveTo_86 : decode cX12_giveTo 86 = .ok (.iconst 1, 1) := by decide +kernel
theorem dX12_giveTo_87 : decode cX12_giveTo 87 = .ok (.ireturn, 1) := by decide +kernel
theorem dX12_giveTo_88 : decode cX12_giveTo 88 = .ok (.iinc 3 1, 3) := by decide +kernel
theorem dX12_giveTo_91 : decode cX12_giveTo 91 = .ok (.goto (-89), 3) := by decide +kernel
theorem dX12_giveTo_94 : decode cX12_giveTo 94 = .ok (.iconst 0, 1) := by decide +kernel
theorem dX12_giveTo_95 : decode cX12_giveTo 95 = .ok (.istore_n 3, 1) := by decide +kernel
theorem dX12_giveTo_96 : decode cX12_giveTo 96 = .ok (.iload_n 3, 1) := by decide +kernel
theorem dX12_giveTo_97 : decode cX12_giveTo 97 = .ok (.aload_n 0, 1) := by decide +kernel
theorem dX12_giveTo_98 : decode cX12_giveTo 98 = .ok (.getfield 355, 3) := by decide +kernel
theorem dX12_giveTo_101 : decode cX12_giveTo 101 = .ok (.if_icmp .ge 161, 3) := by decide +kernel
theorem dX12_giveTo_104 : decode cX12_giveTo 104 = .ok (.iload_n 2, 1) := by decide +kernel
theorem dX12_giveTo_105 : decode cX12_giveTo 105 = .ok (.ifCond .eq 157, 3) := by decide +kernel
theorem dX12_giveTo_108 : decode cX12_giveTo 108 = .ok (.aload_n 0, 1) := by decide +kernel
theorem dX12_giveTo_109 : decode cX12_giveTo 109 = .ok (.getfield 297, 3) := by decide +kernel
theorem dX12_giveTo_112 : decode cX12_giveTo 112 = .ok (.bipush 10, 2) := by decide +kernel
theorem dX12_giveTo_114 : decode cX12_giveTo 114 = .ok (.iload_n 3, 1) := by decide +kernel
theorem dX12_giveTo_115 : decode cX12_giveTo 115 = .ok (.iadd, 1) := by decide +kernel
theorem dX12_giveTo_116 : decode cX12_giveTo 116 = .ok (.baload, 1) := by decide +kernel
theorem dX12_giveTo_117 : decode cX12_giveTo 117 = .ok (.ifCond .ne 139, 3) := by decide +kernel
theorem dX12_giveTo_120 : decode cX12_giveTo 120 = .ok (.aload_n 0, 1) := by decide +kernel
theorem dX12_giveTo_121 : decode cX12_giveTo 121 = .ok (.iload_n 3, 1) := by decide +kernel
theorem dX12_giveTo_122 : decode cX12_giveTo 122 = .ok (.invokevirtual 461, 3) := by decide +kernel
theorem dX12_giveTo_125 : decode cX12_giveTo 125 = .ok (.ifCond .eq 131, 3) := by decide +kernel
theorem dX12_giveTo_128 : decode cX12_giveTo 128 = .ok (.aload_n 0, 1) := by decide +kernel
theorem dX12_giveTo_129 : decode cX12_giveTo 129 = .ok (.iload_n 3, 1) := by decide +kernel
theorem dX12_giveTo_130 : decode cX12_giveTo 130 = .ok (.aload_n 0, 1) := by decide +kernel
theorem dX12_giveTo_131 : decode cX12_giveTo 131 = .ok (.getfield 288, 3) := by decide +kernel
theorem dX12_giveTo_134 : decode cX12_giveTo 134 = .ok (.iload_n 1, 1) := by decide +kernel
theorem dX12_giveTo_135 : decode cX12_giveTo 135 = .ok (.iaload, 1) := by decide +kernel
theorem dX12_giveTo_136 : decode cX12_giveTo 136 = .ok (.invokevirtual 467, 3) := by decide +kernel
theorem dX12_giveTo_139 : decode cX12_giveTo 139 = .ok (.ifCond .ne 6, 3) := by decide +kernel
theorem dX12_giveTo_142 : decode cX12_giveTo 142 = .ok (.goto 114, 3) := by decide +kernel
theorem dX12_giveTo_145 : decode cX12_giveTo 145 = .ok (.aload_n 0, 1) := by decide +kernel
theorem dX12_giveTo_146 : decode cX12_giveTo 146 = .ok (.getfield 297, 3) := by decide +kernel
theorem dX12_giveTo_149 : decode cX12_giveTo 149 = .ok (.bipush 10, 2) := by decide +kernel
theorem dX12_giveTo_151 : decode cX12_giveTo 151 = .ok (.iload_n 3, 1) := by decide +kernel
theorem dX12_giveTo_152 : decode cX12_giveTo 152 = .ok (.iadd, 1) := by decide +kernel
theorem dX12_giveTo_153 : decode cX12_giveTo 153 = .ok (.iconst 1, 1) := by decide +kernel
theorem dX12_giveTo_154 : decode cX12_giveTo 154 = .ok (.bastore, 1) := by decide +kernel
theorem dX12_giveTo_155 : decode cX12_giveTo 155 = .ok (.aload_n 0, 1) := by decide +kernel
theorem dX12_giveTo_156 : decode cX12_giveTo 156 = .ok (.getfield 294, 3) := by decide +kernel
theorem dX12_giveTo_159 : decode cX12_giveTo 159 = .ok (.iload_n 3, 1) := by decide +kernel
theorem dX12_giveTo_160 : decode cX12_giveTo 160 = .ok (.iaload, 1) := by decide +kernel
theorem dX12_giveTo_161 : decode cX12_giveTo 161 = .ok (.aload_n 0, 1) := by decide +kernel
theorem dX12_giveTo_162 : decode cX12_giveTo 162 = .ok (.getfield 228, 3) := by decide +kernel
theorem dX12_giveTo_165 : decode cX12_giveTo 165 = .ok (.iload_n 3, 1) := by decide +kernel
theorem dX12_giveTo_166 : decode cX12_giveTo 166 = .ok (.iaload, 1) := by decide +kernel
theorem dX12_giveTo_167 : decode cX12_giveTo 167 = .ok (.aload_n 0, 1) := by decide +kernel
theorem dX12_giveTo_168 : decode cX12_giveTo 168 = .ok (.getfield 282, 3) := by decide +kernel
theorem dX12_giveTo_171 : decode cX12_giveTo 171 = .ok (.iload_n 3, 1) := by decide +kernel
theorem dX12_giveTo_172 : decode cX12_giveTo 172 = .ok (.iaload, 1) := by decide +kernel
theorem dX12_giveTo_173 : decode cX12_giveTo 173 = .ok (.isub, 1) := by decide +kernel
theorem dX12_giveTo_174 : decode cX12_giveTo 174 = .ok (.if_icmp .ge 25, 3) := by decide +kernel
theorem dX12_giveTo_177 : decode cX12_giveTo 177 = .ok (.aload_n 0, 1) := by decide +kernel
theorem dX12_giveTo_178 : decode cX12_giveTo 178 = .ok (.getfield 294, 3) := by decide +kernel
theorem dX12_giveTo_181 : decode cX12_giveTo 181 = .ok (.iload_n 3, 1) := by decide +kernel
theorem dX12_giveTo_182 : decode cX12_giveTo 182 = .ok (.dup2, 1) := by decide +kernel
theorem dX12_giveTo_183 : decode cX12_giveTo 183 = .ok (.iaload, 1) := by decide +kernel
theorem dX12_giveTo_184 : decode cX12_giveTo 184 = .ok (.iconst 1, 1) := by decide +kernel
theorem dX12_giveTo_185 : decode cX12_giveTo 185 = .ok (.iadd, 1) := by decide +kernel
theorem dX12_giveTo_186 : decode cX12_giveTo 186 = .ok (.iastore, 1) := by decide +kernel
theorem dX12_giveTo_187 : decode cX12_giveTo 187 = .ok (.aload_n 0, 1) := by decide +kernel
theorem dX12_giveTo_188 : decode cX12_giveTo 188 = .ok (.getfield 291, 3) := by decide +kernel
theorem dX12_giveTo_191 : decode cX12_giveTo 191 = .ok (.iload_n 1, 1) := by decide +kernel
theorem dX12_giveTo_192 : decode cX12_giveTo 192 = .ok (.bipush 100, 2) := by decide +kernel
theorem dX12_giveTo_194 : decode cX12_giveTo 194 = .ok (.iload_n 3, 1) := by decide +kernel
theorem dX12_giveTo_195 : decode cX12_giveTo 195 = .ok (.iadd, 1) := by decide +kernel
theorem dX12_giveTo_196 : decode cX12_giveTo 196 = .ok (.iastore, 1) := by decide +kernel
theorem dX12_giveTo_197 : decode cX12_giveTo 197 = .ok (.iconst 1, 1) := by decide +kernel
theorem dX12_giveTo_198 : decode cX12_giveTo 198 = .ok (.ireturn, 1) := by decide +kernel
theorem dX12_giveTo_199 : decode cX12_giveTo 199 = .ok (.iconst 0, 1) := by decide +kernel
theorem dX12_giveTo_200 : decode cX12_giveTo 200 = .ok (.istore 4, 2) := by decide +kernel
theorem dX12_giveTo_202 : decode cX12_giveTo 202 = .ok (.iload 4, 2) := by decide +kernel
theorem dX12_giveTo_204 : decode cX12_giveTo 204 = .ok (.aload_n 0, 1) := by decide +kernel
theorem dX12_giveTo_205 : decode cX12_giveTo 205 = .ok (.getfield 464, 3) := by decide +kernel
theorem dX12_giveTo_208 : decode cX12_giveTo 208 = .ok (.if_icmp .ge 48, 3) := by decide +kernel
theorem dX12_giveTo_211 : decode cX12_giveTo 211 = .ok (.aload_n 0, 1) := by decide +kernel
theorem dX12_giveTo_212 : decode cX12_giveTo 212 = .ok (.getfield 291, 3) := by decide +kernel
theorem dX12_giveTo_215 : decode cX12_giveTo 215 = .ok (.iload 4, 2) := by decide +kernel
theorem dX12_giveTo_217 : decode cX12_giveTo 217 = .ok (.iaload, 1) := by decide +kernel
theorem dX12_giveTo_218 : decode cX12_giveTo 218 = .ok (.bipush 100, 2) := by decide +kernel
theorem dX12_giveTo_220 : decode cX12_giveTo 220 = .ok (.iload_n 3, 1) := by decide +kernel
theorem dX12_giveTo_221 : decode cX12_giveTo 221 = .ok (.iadd, 1) := by decide +kernel
theorem dX12_giveTo_222 : decode cX12_giveTo 222 = .ok (.if_icmp .ne 28, 3) := by decide +kernel
theorem dX12_giveTo_225 : decode cX12_giveTo 225 = .ok (.aload_n 0, 1) := by decide +kernel
theorem dX12_giveTo_226 : decode cX12_giveTo 226 = .ok (.iload 4, 2) := by decide +kernel
theorem dX12_giveTo_228 : decode cX12_giveTo 228 = .ok (.iconst 1, 1) := by decide +kernel
theorem dX12_giveTo_229 : decode cX12_giveTo 229 = .ok (.invokevirtual 470, 3) := by decide +kernel
theorem dX12_giveTo_232 : decode cX12_giveTo 232 = .ok (.ifCond .ne 6, 3) := by decide +kernel
theorem dX12_giveTo_235 : decode cX12_giveTo 235 = .ok (.goto 15, 3) := by decide +kernel
theorem dX12_giveTo_238 : decode cX12_giveTo 238 = .ok (.aload_n 0, 1) := by decide +kernel
theorem dX12_giveTo_239 : decode cX12_giveTo 239 = .ok (.getfield 291, 3) := by decide +kernel
theorem dX12_giveTo_242 : decode cX12_giveTo 242 = .ok (.iload_n 1, 1) := by decide +kernel
theorem dX12_giveTo_243 : decode cX12_giveTo 243 = .ok (.bipush 100, 2) := by decide +kernel
theorem dX12_giveTo_245 : decode cX12_giveTo 245 = .ok (.iload_n 3, 1) := by decide +kernel
theorem dX12_giveTo_246 : decode cX12_giveTo 246 = .ok (.iadd, 1) := by decide +kernel
theorem dX12_giveTo_247 : decode cX12_giveTo 247 = .ok (.iastore, 1) := by decide +kernel
theorem dX12_giveTo_248 : decode cX12_giveTo 248 = .ok (.iconst 1, 1) := by decide +kernel
theorem dX12_giveTo_249 : decode cX12_giveTo 249 = .ok (.ireturn, 1) := by decide +kernel
theorem dX12_giveTo_250 : decode cX12_giveTo 250 = .ok (.iinc 4 1, 3) := by decide +kernel
theorem dX12_giveTo_253 : decode cX12_giveTo 253 = .ok (.goto (-51), 3) := by decide +kernel
theorem dX12_giveTo_256 : decode cX12_giveTo 256 = .ok (.iinc 3 1, 3) := by decide +kernel
theorem dX12_giveTo_259 : decode cX12_giveTo 259 = .ok (.goto (-163), 3) := by decide +kernel
theorem dX12_giveTo_262 : decode cX12_giveTo 262 = .ok (.iconst 0, 1) := by decide +kernel
theorem dX12_giveTo_263 : decode cX12_giveTo 263 = .ok (.ireturn, 1) := by decide +kernel
theorem dX12_ask_0 : decode cX12_ask 0 = .ok (.iconst 0, 1) := by decide +kernel
theorem dX12_ask_1 : decode cX12_ask 1 = .ok (.istore_n 1, 1) := by decide +kernel
theorem dX12_ask_2 : decode cX12_ask 2 = .ok (.iload_n 1, 1) := by decide +kernel
theorem dX12_ask_3 : decode cX12_ask 3 = .ok (.bipush 15, 2) := by decide +kernel
theorem dX12_ask_5 : decode cX12_ask 5 = .ok (.if_icmp .ge 16, 3) := by decide +kernel
theorem dX12_ask_8 : decode cX12_ask 8 = .ok (.aload_n 0, 1) := by decide +kernel
theorem dX12_ask_9 : decode cX12_ask 9 = .ok (.getfield 297, 3) := by decide +kernel
theorem dX12_ask_12 : decode cX12_ask 12 = .ok (.iload_n 1, 1) := by decide +kernel
theorem dX12_ask_13 : decode cX12_ask 13 = .ok (.iconst 0, 1) := by decide +kernel
theorem dX12_ask_14 : decode cX12_ask 14 = .ok (.bastore, 1) := by decide +kernel
theorem dX12_ask_15 : decode cX12_ask 15 = .ok (.iinc 1 1, 3) := by decide +kernel
theorem dX12_ask_18 : decode cX12_ask 18 = .ok (.goto (-16), 3) := by decide +kernel
theorem dX12_ask_21 : decode cX12_ask 21 = .ok (.return_, 1) := by decide +kernel
theorem dX12_fewest_0 : decode cX12_fewest 0 = .ok (.aload_n 0, 1) := by decide +kernel
theorem dX12_fewest_1 : decode cX12_fewest 1 = .ok (.iconst 0, 1) := by decide +kernel
theorem dX12_fewest_2 : decode cX12_fewest 2 = .ok (.putfield 464, 3) := by decide +kernel
theorem dX12_fewest_5 : decode cX12_fewest 5 = .ok (.iconst 0, 1) := by decide +kernel
theorem dX12_fewest_6 : decode cX12_fewest 6 = .ok (.istore_n 1, 1) := by decide +kernel
theorem dX12_fewest_7 : decode cX12_fewest 7 = .ok (.iload_n 1, 1) := by decide +kernel
theorem dX12_fewest_8 : decode cX12_fewest 8 = .ok (.aload_n 0, 1) := by decide +kernel
theorem dX12_fewest_9 : decode cX12_fewest 9 = .ok (.getfield 355, 3) := by decide +kernel
theorem dX12_fewest_12 : decode cX12_fewest 12 = .ok (.if_icmp .ge 82, 3) := by decide +kernel
theorem dX12_fewest_15 : decode cX12_fewest 15 = .ok (.aload_n 0, 1) := by decide +kernel
theorem dX12_fewest_16 : decode cX12_fewest 16 = .ok (.getfield 294, 3) := by decide +kernel
theorem dX12_fewest_19 : decode cX12_fewest 19 = .ok (.iload_n 1, 1) := by decide +kernel
theorem dX12_fewest_20 : decode cX12_fewest 20 = .ok (.iconst 0, 1) := by decide +kernel
theorem dX12_fewest_21 : decode cX12_fewest 21 = .ok (.iastore, 1) := by decide +kernel
theorem dX12_fewest_22 : decode cX12_fewest 22 = .ok (.iconst 0, 1) := by decide +kernel
theorem dX12_fewest_23 : decode cX12_fewest 23 = .ok (.istore_n 2, 1) := by decide +kernel
theorem dX12_fewest_24 : decode cX12_fewest 24 = .ok (.iload_n 2, 1) := by decide +kernel
theorem dX12_fewest_25 : decode cX12_fewest 25 = .ok (.aload_n 0, 1) := by decide +kernel
theorem dX12_fewest_26 : decode cX12_fewest 26 = .ok (.getfield 282, 3) := by decide +kernel
theorem dX12_fewest_29 : decode cX12_fewest 29 = .ok (.iload_n 1, 1) := by decide +kernel
theorem dX12_fewest_30 : decode cX12_fewest 30 = .ok (.iaload, 1) := by decide +kernel
theorem dX12_fewest_31 : decode cX12_fewest 31 = .ok (.if_icmp .ge 57, 3) := by decide +kernel
theorem dX12_fewest_34 : decode cX12_fewest 34 = .ok (.aload_n 0, 1) := by decide +kernel
theorem dX12_fewest_35 : decode cX12_fewest 35 = .ok (.iload_n 1, 1) := by decide +kernel
theorem dX12_fewest_36 : decode cX12_fewest 36 = .ok (.invokevirtual 461, 3) := by decide +kernel
theorem dX12_fewest_39 : decode cX12_fewest 39 = .ok (.ifCond .eq 49, 3) := by decide +kernel
theorem dX12_fewest_42 : decode cX12_fewest 42 = .ok (.aload_n 0, 1) := by decide +kernel
theorem dX12_fewest_43 : decode cX12_fewest 43 = .ok (.getfield 288, 3) := by decide +kernel
theorem dX12_fewest_46 : decode cX12_fewest 46 = .ok (.aload_n 0, 1) := by decide +kernel
theorem dX12_fewest_47 : decode cX12_fewest 47 = .ok (.getfield 464, 3) := by decide +kernel
theorem dX12_fewest_50 : decode cX12_fewest 50 = .ok (.iload_n 1, 1) := by decide +kernel
theorem dX12_fewest_51 : decode cX12_fewest 51 = .ok (.iastore, 1) := by decide +kernel
theorem dX12_fewest_52 : decode cX12_fewest 52 = .ok (.aload_n 0, 1) := by decide +kernel
theorem dX12_fewest_53 : decode cX12_fewest 53 = .ok (.getfield 291, 3) := by decide +kernel
theorem dX12_fewest_56 : decode cX12_fewest 56 = .ok (.aload_n 0, 1) := by decide +kernel
theorem dX12_fewest_57 : decode cX12_fewest 57 = .ok (.getfield 464, 3) := by decide +kernel
theorem dX12_fewest_60 : decode cX12_fewest 60 = .ok (.iconst (-1), 1) := by decide +kernel
theorem dX12_fewest_61 : decode cX12_fewest 61 = .ok (.iastore, 1) := by decide +kernel
theorem dX12_fewest_62 : decode cX12_fewest 62 = .ok (.aload_n 0, 1) := by decide +kernel
theorem dX12_fewest_63 : decode cX12_fewest 63 = .ok (.getfield 300, 3) := by decide +kernel
theorem dX12_fewest_66 : decode cX12_fewest 66 = .ok (.aload_n 0, 1) := by decide +kernel
theorem dX12_fewest_67 : decode cX12_fewest 67 = .ok (.getfield 464, 3) := by decide +kernel
theorem dX12_fewest_70 : decode cX12_fewest 70 = .ok (.iconst (-1), 1) := by decide +kernel
theorem dX12_fewest_71 : decode cX12_fewest 71 = .ok (.iastore, 1) := by decide +kernel
theorem dX12_fewest_72 : decode cX12_fewest 72 = .ok (.aload_n 0, 1) := by decide +kernel
theorem dX12_fewest_73 : decode cX12_fewest 73 = .ok (.dup, 1) := by decide +kernel
theorem dX12_fewest_74 : decode cX12_fewest 74 = .ok (.getfield 464, 3) := by decide +kernel
theorem dX12_fewest_77 : decode cX12_fewest 77 = .ok (.iconst 1, 1) := by decide +kernel
theorem dX12_fewest_78 : decode cX12_fewest 78 = .ok (.iadd, 1) := by decide +kernel
theorem dX12_fewest_79 : decode cX12_fewest 79 = .ok (.putfield 464, 3) := by decide +kernel
theorem dX12_fewest_82 : decode cX12_fewest 82 = .ok (.iinc 2 1, 3) := by decide +kernel
theorem dX12_fewest_85 : decode cX12_fewest 85 = .ok (.goto (-61), 3) := by decide +kernel
theorem dX12_fewest_88 : decode cX12_fewest 88 = .ok (.iinc 1 1, 3) := by decide +kernel
theorem dX12_fewest_91 : decode cX12_fewest 91 = .ok (.goto (-84), 3) := by decide +kernel
theorem dX12_fewest_94 : decode cX12_fewest 94 = .ok (.iconst 0, 1) := by decide +kernel
theorem dX12_fewest_95 : decode cX12_fewest 95 = .ok (.istore_n 1, 1) := by decide +kernel
theorem dX12_fewest_96 : decode cX12_fewest 96 = .ok (.iload_n 1, 1) := by decide +kernel
theorem dX12_fewest_97 : decode cX12_fewest 97 = .ok (.aload_n 0, 1) := by decide +kernel
theorem dX12_fewest_98 : decode cX12_fewest 98 = .ok (.getfield 464, 3) := by decide +kernel
theorem dX12_fewest_101 : decode cX12_fewest 101 = .ok (.if_icmp .ge 20, 3) := by decide +kernel
theorem dX12_fewest_104 : decode cX12_fewest 104 = .ok (.aload_n 0, 1) := by decide +kernel
theorem dX12_fewest_105 : decode cX12_fewest 105 = .ok (.invokevirtual 474, 3) := by decide +kernel
theorem dX12_fewest_108 : decode cX12_fewest 108 = .ok (.aload_n 0, 1) := by decide +kernel
theorem dX12_fewest_109 : decode cX12_fewest 109 = .ok (.iload_n 1, 1) := by decide +kernel
theorem dX12_fewest_110 : decode cX12_fewest 110 = .ok (.iconst 0, 1) := by decide +kernel
theorem dX12_fewest_111 : decode cX12_fewest 111 = .ok (.invokevirtual 470, 3) := by decide +kernel
theorem dX12_fewest_114 : decode cX12_fewest 114 = .ok (.pop, 1) := by decide +kernel
theorem dX12_fewest_115 : decode cX12_fewest 115 = .ok (.iinc 1 1, 3) := by decide +kernel
theorem dX12_fewest_118 : decode cX12_fewest 118 = .ok (.goto (-22), 3) := by decide +kernel
theorem dX12_fewest_121 : decode cX12_fewest 121 = .ok (.iconst 0, 1) := by decide +kernel
theorem dX12_fewest_122 : decode cX12_fewest 122 = .ok (.istore_n 1, 1) := by decide +kernel
theorem dX12_fewest_123 : decode cX12_fewest 123 = .ok (.iload_n 1, 1) := by decide +kernel
theorem dX12_fewest_124 : decode cX12_fewest 124 = .ok (.aload_n 0, 1) := by decide +kernel
theorem dX12_fewest_125 : decode cX12_fewest 125 = .ok (.getfield 464, 3) := by decide +kernel
theorem dX12_fewest_128 : decode cX12_fewest 128 = .ok (.if_icmp .ge 37, 3) := by decide +kernel
theorem dX12_fewest_131 : decode cX12_fewest 131 = .ok (.aload_n 0, 1) := by decide +kernel
theorem dX12_fewest_132 : decode cX12_fewest 132 = .ok (.getfield 291, 3) := by decide +kernel
theorem dX12_fewest_135 : decode cX12_fewest 135 = .ok (.iload_n 1, 1) := by decide +kernel
theorem dX12_fewest_136 : decode cX12_fewest 136 = .ok (.iaload, 1) := by decide +kernel
theorem dX12_fewest_137 : decode cX12_fewest 137 = .ok (.iconst (-1), 1) := by decide +kernel
theorem dX12_fewest_138 : decode cX12_fewest 138 = .ok (.if_icmp .eq 6, 3) := by decide +kernel
theorem dX12_fewest_141 : decode cX12_fewest 141 = .ok (.goto 18, 3) := by decide +kernel
theorem dX12_fewest_144 : decode cX12_fewest 144 = .ok (.aload_n 0, 1) := by decide +kernel
theorem dX12_fewest_145 : decode cX12_fewest 145 = .ok (.invokevirtual 474, 3) := by decide +kernel
theorem dX12_fewest_148 : decode cX12_fewest 148 = .ok (.aload_n 0, 1) := by decide +kernel
theorem dX12_fewest_149 : decode cX12_fewest 149 = .ok (.iload_n 1, 1) := by decide +kernel
theorem dX12_fewest_150 : decode cX12_fewest 150 = .ok (.iconst 1, 1) := by decide +kernel
theorem dX12_fewest_151 : decode cX12_fewest 151 = .ok (.invokevirtual 470, 3) := by decide +kernel
theorem dX12_fewest_154 : decode cX12_fewest 154 = .ok (.ifCond .ne 5, 3) := by decide +kernel
theorem dX12_fewest_157 : decode cX12_fewest 157 = .ok (.iconst (-1), 1) := by decide +kernel
theorem dX12_fewest_158 : decode cX12_fewest 158 = .ok (.ireturn, 1) := by decide +kernel
theorem dX12_fewest_159 : decode cX12_fewest 159 = .ok (.iinc 1 1, 3) := by decide +kernel
theorem dX12_fewest_162 : decode cX12_fewest 162 = .ok (.goto (-39), 3) := by decide +kernel
theorem dX12_fewest_165 : decode cX12_fewest 165 = .ok (.iconst 0, 1) := by decide +kernel
theorem dX12_fewest_166 : decode cX12_fewest 166 = .ok (.istore_n 1, 1) := by decide +kernel
theorem dX12_fewest_167 : decode cX12_fewest 167 = .ok (.iconst 0, 1) := by decide +kernel
theorem dX12_fewest_168 : decode cX12_fewest 168 = .ok (.istore_n 2, 1) := by decide +kernel
theorem dX12_fewest_169 : decode cX12_fewest 169 = .ok (.iload_n 2, 1) := by decide +kernel
theorem dX12_fewest_170 : decode cX12_fewest 170 = .ok (.aload_n 0, 1) := by decide +kernel
theorem dX12_fewest_171 : decode cX12_fewest 171 = .ok (.getfield 355, 3) := by decide +kernel
theorem dX12_fewest_174 : decode cX12_fewest 174 = .ok (.if_icmp .ge 18, 3) := by decide +kernel
theorem dX12_fewest_177 : decode cX12_fewest 177 = .ok (.iload_n 1, 1) := by decide +kernel
theorem dX12_fewest_178 : decode cX12_fewest 178 = .ok (.aload_n 0, 1) := by decide +kernel
theorem dX12_fewest_179 : decode cX12_fewest 179 = .ok (.getfield 294, 3) := by decide +kernel
theorem dX12_fewest_182 : decode cX12_fewest 182 = .ok (.iload_n 2, 1) := by decide +kernel
theorem dX12_fewest_183 : decode cX12_fewest 183 = .ok (.iaload, 1) := by decide +kernel
theorem dX12_fewest_184 : decode cX12_fewest 184 = .ok (.iadd, 1) := by decide +kernel
theorem dX12_fewest_185 : decode cX12_fewest 185 = .ok (.istore_n 1, 1) := by decide +kernel
theorem dX12_fewest_186 : decode cX12_fewest 186 = .ok (.iinc 2 1, 3) := by decide +kernel
theorem dX12_fewest_189 : decode cX12_fewest 189 = .ok (.goto (-20), 3) := by decide +kernel
theorem dX12_fewest_192 : decode cX12_fewest 192 = .ok (.iload_n 1, 1) := by decide +kernel
theorem dX12_fewest_193 : decode cX12_fewest 193 = .ok (.ireturn, 1) := by decide +kernel
theorem dX12_runners_0 : decode cX12_runners 0 = .ok (.aload_n 0, 1) := by decide +kernel
theorem dX12_runners_1 : decode cX12_runners 1 = .ok (.iconst 1, 1) := by decide +kernel
theorem dX12_runners_2 : decode cX12_runners 2 = .ok (.invokevirtual 477, 3) := by decide +kernel
theorem dX12_runners_5 : decode cX12_runners 5 = .ok (.bipush 10, 2) := by decide +kernel
theorem dX12_runners_7 : decode cX12_runners 7 = .ok (.if_icmp .le 6, 3) := by decide +kernel
theorem dX12_runners_10 : decode cX12_runners 10 = .ok (.bipush (-3), 2) := by decide +kernel
theorem dX12_runners_12 : decode cX12_runners 12 = .ok (.ireturn, 1) := by decide +kernel
theorem dX12_runners_13 : decode cX12_runners 13 = .ok (.iconst 0, 1) := by decide +kernel
theorem dX12_runners_14 : decode cX12_runners 14 = .ok (.istore_n 1, 1) := by decide +kernel
theorem dX12_runners_15 : decode cX12_runners 15 = .ok (.iload_n 1, 1) := by decide +kernel
theorem dX12_runners_16 : decode cX12_runners 16 = .ok (.aload_n 0, 1) := by decide +kernel
theorem dX12_runners_17 : decode cX12_runners 17 = .ok (.getfield 355, 3) := by decide +kernel
theorem dX12_runners_20 : decode cX12_runners 20 = .ok (.if_icmp .ge 21, 3) := by decide +kernel
theorem dX12_runners_23 : decode cX12_runners 23 = .ok (.aload_n 0, 1) := by decide +kernel
theorem dX12_runners_24 : decode cX12_runners 24 = .ok (.getfield 285, 3) := by decide +kernel
theorem dX12_runners_27 : decode cX12_runners 27 = .ok (.iload_n 1, 1) := by decide +kernel
theorem dX12_runners_28 : decode cX12_runners 28 = .ok (.aload_n 0, 1) := by decide +kernel
theorem dX12_runners_29 : decode cX12_runners 29 = .ok (.getfield 231, 3) := by decide +kernel
theorem dX12_runners_32 : decode cX12_runners 32 = .ok (.iload_n 1, 1) := by decide +kernel
theorem dX12_runners_33 : decode cX12_runners 33 = .ok (.iaload, 1) := by decide +kernel
theorem dX12_runners_34 : decode cX12_runners 34 = .ok (.iastore, 1) := by decide +kernel
theorem dX12_runners_35 : decode cX12_runners 35 = .ok (.iinc 1 1, 3) := by decide +kernel
theorem dX12_runners_38 : decode cX12_runners 38 = .ok (.goto (-23), 3) := by decide +kernel
theorem dX12_runners_41 : decode cX12_runners 41 = .ok (.aload_n 0, 1) := by decide +kernel
theorem dX12_runners_42 : decode cX12_runners 42 = .ok (.invokevirtual 481, 3) := by decide +kernel
theorem dX12_runners_45 : decode cX12_runners 45 = .ok (.ireturn, 1) := by decide +kernel
theorem dX12_orders_0 : decode cX12_orders 0 = .ok (.iload_n 1, 1) := by decide +kernel
theorem dX12_orders_1 : decode cX12_orders 1 = .ok (.aload_n 0, 1) := by decide +kernel
theorem dX12_orders_2 : decode cX12_orders 2 = .ok (.getfield 355, 3) := by decide +kernel
theorem dX12_orders_5 : decode cX12_orders 5 = .ok (.if_icmp .ne 26, 3) := by decide +kernel
theorem dX12_orders_8 : decode cX12_orders 8 = .ok (.aload_n 0, 1) := by decide +kernel
theorem dX12_orders_9 : decode cX12_orders 9 = .ok (.dup, 1) := by decide +kernel
theorem dX12_orders_10 : decode cX12_orders 10 = .ok (.getfield 484, 3) := by decide +kernel
theorem dX12_orders_13 : decode cX12_orders 13 = .ok (.aload_n 0, 1) := by decide +kernel
theorem dX12_orders_14 : decode cX12_orders 14 = .ok (.invokevirtual 481, 3) := by decide +kernel
theorem dX12_orders_17 : decode cX12_orders 17 = .ok (.iconst (-1), 1) := by decide +kernel
theorem dX12_orders_18 : decode cX12_orders 18 = .ok (.if_icmp .ne 7, 3) := by decide +kernel
theorem dX12_orders_21 : decode cX12_orders 21 = .ok (.iconst 1, 1) := by decide +kernel
theorem dX12_orders_22 : decode cX12_orders 22 = .ok (.goto 4, 3) := by decide +kernel
theorem dX12_orders_25 : decode cX12_orders 25 = .ok (.iconst 0, 1) := by decide +kernel
theorem dX12_orders_26 : decode cX12_orders 26 = .ok (.iadd, 1) := by decide +kernel
theorem dX12_orders_27 : decode cX12_orders 27 = .ok (.putfield 484, 3) := by decide +kernel
theorem dX12_orders_30 : decode cX12_orders 30 = .ok (.return_, 1) := by decide +kernel
theorem dX12_orders_31 : decode cX12_orders 31 = .ok (.aload_n 0, 1) := by decide +kernel
theorem dX12_orders_32 : decode cX12_orders 32 = .ok (.iload_n 1, 1) := by decide +kernel
theorem dX12_orders_33 : decode cX12_orders 33 = .ok (.invokevirtual 461, 3) := by decide +kernel
theorem dX12_orders_36 : decode cX12_orders 36 = .ok (.ifCond .ne 12, 3) := by decide +kernel
theorem dX12_orders_39 : decode cX12_orders 39 = .ok (.aload_n 0, 1) := by decide +kernel
theorem dX12_orders_40 : decode cX12_orders 40 = .ok (.iload_n 1, 1) := by decide +kernel
theorem dX12_orders_41 : decode cX12_orders 41 = .ok (.iconst 1, 1) := by decide +kernel
theorem dX12_orders_42 : decode cX12_orders 42 = .ok (.iadd, 1) := by decide +kernel
theorem dX12_orders_43 : decode cX12_orders 43 = .ok (.iload_n 2, 1) := by decide +kernel
theorem dX12_orders_44 : decode cX12_orders 44 = .ok (.invokevirtual 487, 3) := by decide +kernel
theorem dX12_orders_47 : decode cX12_orders 47 = .ok (.return_, 1) := by decide +kernel
theorem dX12_orders_48 : decode cX12_orders 48 = .ok (.iconst 0, 1) := by decide +kernel
theorem dX12_orders_49 : decode cX12_orders 49 = .ok (.istore_n 3, 1) := by decide +kernel
theorem dX12_orders_50 : decode cX12_orders 50 = .ok (.iload_n 3, 1) := by decide +kernel
theorem dX12_orders_51 : decode cX12_orders 51 = .ok (.aload_n 0, 1) := by decide +kernel
theorem dX12_orders_52 : decode cX12_orders 52 = .ok (.getfield 355, 3) := by decide +kernel
theorem dX12_orders_55 : decode cX12_orders 55 = .ok (.if_icmp .ge 53, 3) := by decide +kernel
theorem dX12_orders_58 : decode cX12_orders 58 = .ok (.aload_n 0, 1) := by decide +kernel
theorem dX12_orders_59 : decode cX12_orders 59 = .ok (.iload_n 3, 1) := by decide +kernel
theorem dX12_orders_60 : decode cX12_orders 60 = .ok (.invokevirtual 461, 3) := by decide +kernel
theorem dX12_orders_63 : decode cX12_orders 63 = .ok (.ifCond .eq 39, 3) := by decide +kernel
theorem dX12_orders_66 : decode cX12_orders 66 = .ok (.iload_n 2, 1) := by decide +kernel
theorem dX12_orders_67 : decode cX12_orders 67 = .ok (.iload_n 3, 1) := by decide +kernel
theorem dX12_orders_68 : decode cX12_orders 68 = .ok (.ishr, 1) := by decide +kernel
theorem dX12_orders_69 : decode cX12_orders 69 = .ok (.iconst 1, 1) := by decide +kernel
theorem dX12_orders_70 : decode cX12_orders 70 = .ok (.iand, 1) := by decide +kernel
theorem dX12_orders_71 : decode cX12_orders 71 = .ok (.iconst 1, 1) := by decide +kernel
theorem dX12_orders_72 : decode cX12_orders 72 = .ok (.if_icmp .ne 6, 3) := by decide +kernel
theorem dX12_orders_75 : decode cX12_orders 75 = .ok (.goto 27, 3) := by decide +kernel
theorem dX12_orders_78 : decode cX12_orders 78 = .ok (.aload_n 0, 1) := by decide +kernel
theorem dX12_orders_79 : decode cX12_orders 79 = .ok (.getfield 285, 3) := by decide +kernel
theorem dX12_orders_82 : decode cX12_orders 82 = .ok (.iload_n 1, 1) := by decide +kernel
theorem dX12_orders_83 : decode cX12_orders 83 = .ok (.aload_n 0, 1) := by decide +kernel
theorem dX12_orders_84 : decode cX12_orders 84 = .ok (.getfield 231, 3) := by decide +kernel
theorem dX12_orders_87 : decode cX12_orders 87 = .ok (.iload_n 3, 1) := by decide +kernel
theorem dX12_orders_88 : decode cX12_orders 88 = .ok (.iaload, 1) := by decide +kernel
theorem dX12_orders_89 : decode cX12_orders 89 = .ok (.iastore, 1) := by decide +kernel
theorem dX12_orders_90 : decode cX12_orders 90 = .ok (.aload_n 0, 1) := by decide +kernel
theorem dX12_orders_91 : decode cX12_orders 91 = .ok (.iload_n 1, 1) := by decide +kernel
theorem dX12_orders_92 : decode cX12_orders 92 = .ok (.iconst 1, 1) := by decide +kernel
theorem dX12_orders_93 : decode cX12_orders 93 = .ok (.iadd, 1) := by decide +kernel
theorem dX12_orders_94 : decode cX12_orders 94 = .ok (.iload_n 2, 1) := by decide +kernel
theorem dX12_orders_95 : decode cX12_orders 95 = .ok (.iconst 1, 1) := by decide +kernel
theorem dX12_orders_96 : decode cX12_orders 96 = .ok (.iload_n 3, 1) := by decide +kernel
theorem dX12_orders_97 : decode cX12_orders 97 = .ok (.ishl, 1) := by decide +kernel
theorem dX12_orders_98 : decode cX12_orders 98 = .ok (.ior, 1) := by decide +kernel
theorem dX12_orders_99 : decode cX12_orders 99 = .ok (.invokevirtual 487, 3) := by decide +kernel
theorem dX12_orders_102 : decode cX12_orders 102 = .ok (.iinc 3 1, 3) := by decide +kernel
theorem dX12_orders_105 : decode cX12_orders 105 = .ok (.goto (-55), 3) := by decide +kernel
theorem dX12_orders_108 : decode cX12_orders 108 = .ok (.return_, 1) := by decide +kernel
theorem dX12_wrong_0 : decode cX12_wrong 0 = .ok (.aload_n 0, 1) := by decide +kernel
theorem dX12_wrong_1 : decode cX12_wrong 1 = .ok (.iconst 1, 1) := by decide +kernel
theorem dX12_wrong_2 : decode cX12_wrong 2 = .ok (.invokevirtual 477, 3) := by decide +kernel
theorem dX12_wrong_5 : decode cX12_wrong 5 = .ok (.bipush 10, 2) := by decide +kernel
theorem dX12_wrong_7 : decode cX12_wrong 7 = .ok (.if_icmp .le 6, 3) := by decide +kernel
theorem dX12_wrong_10 : decode cX12_wrong 10 = .ok (.bipush (-3), 2) := by decide +kernel
theorem dX12_wrong_12 : decode cX12_wrong 12 = .ok (.ireturn, 1) := by decide +kernel
theorem dX12_wrong_13 : decode cX12_wrong 13 = .ok (.aload_n 0, 1) := by decide +kernel
theorem dX12_wrong_14 : decode cX12_wrong 14 = .ok (.iconst 0, 1) := by decide +kernel
theorem dX12_wrong_15 : decode cX12_wrong 15 = .ok (.putfield 484, 3) := by decide +kernel
theorem dX12_wrong_18 : decode cX12_wrong 18 = .ok (.aload_n 0, 1) := by decide +kernel
theorem dX12_wrong_19 : decode cX12_wrong 19 = .ok (.iconst 0, 1) := by decide +kernel
theorem dX12_wrong_20 : decode cX12_wrong 20 = .ok (.iconst 0, 1) := by decide +kernel
theorem dX12_wrong_21 : decode cX12_wrong 21 = .ok (.invokevirtual 487, 3) := by decide +kernel
theorem dX12_wrong_24 : decode cX12_wrong 24 = .ok (.aload_n 0, 1) := by decide +kernel
theorem dX12_wrong_25 : decode cX12_wrong 25 = .ok (.getfield 484, 3) := by decide +kernel
theorem dX12_wrong_28 : decode cX12_wrong 28 = .ok (.ireturn, 1) := by decide +kernel
theorem dX12_keptBy_0 : decode cX12_keptBy 0 = .ok (.ldc_w 491, 3) := by decide +kernel
theorem dX12_keptBy_3 : decode cX12_keptBy 3 = .ok (.istore_n 3, 1) := by decide +kernel
theorem dX12_keptBy_4 : decode cX12_keptBy 4 = .ok (.iconst 0, 1) := by decide +kernel
theorem dX12_keptBy_5 : decode cX12_keptBy 5 = .ok (.istore 4, 2) := by decide +kernel
theorem dX12_keptBy_7 : decode cX12_keptBy 7 = .ok (.iload 4, 2) := by decide +kernel
theorem dX12_keptBy_9 : decode cX12_keptBy 9 = .ok (.iload_n 2, 1) := by decide +kernel
theorem dX12_keptBy_10 : decode cX12_keptBy 10 = .ok (.if_icmp .ge 57, 3) := by decide +kernel
theorem dX12_keptBy_13 : decode cX12_keptBy 13 = .ok (.iload_n 3, 1) := by decide +kernel
theorem dX12_keptBy_14 : decode cX12_keptBy 14 = .ok (.ifCond .le 53, 3) := by decide +kernel
theorem dX12_keptBy_17 : decode cX12_keptBy 17 = .ok (.iconst 0, 1) := by decide +kernel
theorem dX12_keptBy_18 : decode cX12_keptBy 18 = .ok (.istore 5, 2) := by decide +kernel
theorem dX12_keptBy_20 : decode cX12_keptBy 20 = .ok (.iload 5, 2) := by decide +kernel
theorem dX12_keptBy_22 : decode cX12_keptBy 22 = .ok (.aload_n 0, 1) := by decide +kernel
theorem dX12_keptBy_23 : decode cX12_keptBy 23 = .ok (.getfield 361, 3) := by decide +kernel
theorem dX12_keptBy_26 : decode cX12_keptBy 26 = .ok (.if_icmp .ge 35, 3) := by decide +kernel
theorem dX12_keptBy_29 : decode cX12_keptBy 29 = .ok (.iload_n 1, 1) := by decide +kernel
theorem dX12_keptBy_30 : decode cX12_keptBy 30 = .ok (.iload 5, 2) := by decide +kernel
theorem dX12_keptBy_32 : decode cX12_keptBy 32 = .ok (.ishr, 1) := by decide +kernel
theorem dX12_keptBy_33 : decode cX12_keptBy 33 = .ok (.iconst 1, 1) := by decide +kernel
theorem dX12_keptBy_34 : decode cX12_keptBy 34 = .ok (.iand, 1) := by decide +kernel
theorem dX12_keptBy_35 : decode cX12_keptBy 35 = .ok (.iconst 1, 1) := by decide +kernel
theorem dX12_keptBy_36 : decode cX12_keptBy 36 = .ok (.if_icmp .ne 19, 3) := by decide +kernel
theorem dX12_keptBy_39 : decode cX12_keptBy 39 = .ok (.iload_n 3, 1) := by decide +kernel
theorem dX12_keptBy_40 : decode cX12_keptBy 40 = .ok (.bipush 100, 2) := by decide +kernel
theorem dX12_keptBy_42 : decode cX12_keptBy 42 = .ok (.aload_n 0, 1) := by decide +kernel
theorem dX12_keptBy_43 : decode cX12_keptBy 43 = .ok (.getfield 245, 3) := by decide +kernel
theorem dX12_keptBy_46 : decode cX12_keptBy 46 = .ok (.iload 5, 2) := by decide +kernel
theorem dX12_keptBy_48 : decode cX12_keptBy 48 = .ok (.iaload, 1) := by decide +kernel
theorem dX12_keptBy_49 : decode cX12_keptBy 49 = .ok (.isub, 1) := by decide +kernel
theorem dX12_keptBy_50 : decode cX12_keptBy 50 = .ok (.imul, 1) := by decide +kernel
theorem dX12_keptBy_51 : decode cX12_keptBy 51 = .ok (.bipush 100, 2) := by decide +kernel
theorem dX12_keptBy_53 : decode cX12_keptBy 53 = .ok (.idiv, 1) := by decide +kernel
theorem dX12_keptBy_54 : decode cX12_keptBy 54 = .ok (.istore_n 3, 1) := by decide +kernel
theorem dX12_keptBy_55 : decode cX12_keptBy 55 = .ok (.iinc 5 1, 3) := by decide +kernel
theorem dX12_keptBy_58 : decode cX12_keptBy 58 = .ok (.goto (-38), 3) := by decide +kernel
theorem dX12_keptBy_61 : decode cX12_keptBy 61 = .ok (.iinc 4 1, 3) := by decide +kernel
theorem dX12_keptBy_64 : decode cX12_keptBy 64 = .ok (.goto (-57), 3) := by decide +kernel
theorem dX12_keptBy_67 : decode cX12_keptBy 67 = .ok (.iload_n 3, 1) := by decide +kernel
theorem dX12_keptBy_68 : decode cX12_keptBy 68 = .ok (.ireturn, 1) := by decide +kernel
theorem dX12_areLooks_0 : decode cX12_areLooks 0 = .ok (.iload_n 1, 1) := by decide +kernel
theorem dX12_areLooks_1 : decode cX12_areLooks 1 = .ok (.i2l, 1) := by decide +kernel
theorem dX12_areLooks_2 : decode cX12_areLooks 2 = .ok (.lconst 0, 1) := by decide +kernel
theorem dX12_areLooks_3 : decode cX12_areLooks 3 = .ok (.lconst 1, 1) := by decide +kernel
theorem dX12_areLooks_4 : decode cX12_areLooks 4 = .ok (.aload_n 0, 1) := by decide +kernel
theorem dX12_areLooks_5 : decode cX12_areLooks 5 = .ok (.getfield 361, 3) := by decide +kernel
theorem dX12_areLooks_8 : decode cX12_areLooks 8 = .ok (.lshl, 1) := by decide +kernel
theorem dX12_areLooks_9 : decode cX12_areLooks 9 = .ok (.lconst 1, 1) := by decide +kernel
theorem dX12_areLooks_10 : decode cX12_areLooks 10 = .ok (.lsub, 1) := by decide +kernel
theorem dX12_areLooks_11 : decode cX12_areLooks 11 = .ok (.invokestatic 52, 3) := by decide +kernel
theorem dX12_areLooks_14 : decode cX12_areLooks 14 = .ok (.ireturn, 1) := by decide +kernel
theorem dX12_kept_0 : decode cX12_kept 0 = .ok (.aload_n 0, 1) := by decide +kernel
theorem dX12_kept_1 : decode cX12_kept 1 = .ok (.iload_n 1, 1) := by decide +kernel
theorem dX12_kept_2 : decode cX12_kept 2 = .ok (.invokevirtual 492, 3) := by decide +kernel
theorem dX12_kept_5 : decode cX12_kept 5 = .ok (.ifCond .eq 24, 3) := by decide +kernel
theorem dX12_kept_8 : decode cX12_kept 8 = .ok (.iload_n 2, 1) := by decide +kernel
theorem dX12_kept_9 : decode cX12_kept 9 = .ok (.i2l, 1) := by decide +kernel
theorem dX12_kept_10 : decode cX12_kept 10 = .ok (.lconst 0, 1) := by decide +kernel
theorem dX12_kept_11 : decode cX12_kept 11 = .ok (.ldc2_w 495, 3) := by decide +kernel
theorem dX12_kept_14 : decode cX12_kept 14 = .ok (.invokestatic 52, 3) := by decide +kernel
theorem dX12_kept_17 : decode cX12_kept 17 = .ok (.ifCond .eq 12, 3) := by decide +kernel
theorem dX12_kept_20 : decode cX12_kept 20 = .ok (.aload_n 0, 1) := by decide +kernel
theorem dX12_kept_21 : decode cX12_kept 21 = .ok (.iload_n 1, 1) := by decide +kernel
theorem dX12_kept_22 : decode cX12_kept 22 = .ok (.iload_n 2, 1) := by decide +kernel
theorem dX12_kept_23 : decode cX12_kept 23 = .ok (.invokevirtual 497, 3) := by decide +kernel
theorem dX12_kept_26 : decode cX12_kept 26 = .ok (.goto 5, 3) := by decide +kernel
theorem dX12_kept_29 : decode cX12_kept 29 = .ok (.bipush (-2), 2) := by decide +kernel
theorem dX12_kept_31 : decode cX12_kept 31 = .ok (.ireturn, 1) := by decide +kernel
theorem dX12_neededFor_0 : decode cX12_neededFor 0 = .ok (.iconst 0, 1) := by decide +kernel
theorem dX12_neededFor_1 : decode cX12_neededFor 1 = .ok (.istore_n 3, 1) := by decide +kernel
theorem dX12_neededFor_2 : decode cX12_neededFor 2 = .ok (.iconst 0, 1) := by decide +kernel
theorem dX12_neededFor_3 : decode cX12_neededFor 3 = .ok (.istore 4, 2) := by decide +kernel
theorem dX12_neededFor_5 : decode cX12_neededFor 5 = .ok (.iconst 0, 1) := by decide +kernel
theorem dX12_neededFor_6 : decode cX12_neededFor 6 = .ok (.istore 5, 2) := by decide +kernel
theorem dX12_neededFor_8 : decode cX12_neededFor 8 = .ok (.iload 5, 2) := by decide +kernel
theorem dX12_neededFor_10 : decode cX12_neededFor 10 = .ok (.sipush 400, 3) := by decide +kernel
theorem dX12_neededFor_13 : decode cX12_neededFor 13 = .ok (.if_icmp .gt 60, 3) := by decide +kernel
theorem dX12_neededFor_16 : decode cX12_neededFor 16 = .ok (.iload_n 3, 1) := by decide +kernel
theorem dX12_neededFor_17 : decode cX12_neededFor 17 = .ok (.iload_n 1, 1) := by decide +kernel
theorem dX12_neededFor_18 : decode cX12_neededFor 18 = .ok (.if_icmp .lt 6, 3) := by decide +kernel
theorem dX12_neededFor_21 : decode cX12_neededFor 21 = .ok (.iload 5, 2) := by decide +kernel
theorem dX12_neededFor_23 : decode cX12_neededFor 23 = .ok (.ireturn, 1) := by decide +kernel
theorem dX12_neededFor_24 : decode cX12_neededFor 24 = .ok (.iload 4, 2) := by decide +kernel
theorem dX12_neededFor_26 : decode cX12_neededFor 26 = .ok (.iconst 0, 1) := by decide +kernel
theorem dX12_neededFor_27 : decode cX12_neededFor 27 = .ok (.iload_n 2, 1) := by decide +kernel
theorem dX12_neededFor_28 : decode cX12_neededFor 28 = .ok (.iload_n 3, 1) := by decide +kernel
theorem dX12_neededFor_29 : decode cX12_neededFor 29 = .ok (.aload_n 0, 1) := by decide +kernel
theorem dX12_neededFor_30 : decode cX12_neededFor 30 = .ok (.getfield 219, 3) := by decide +kernel
theorem dX12_neededFor_33 : decode cX12_neededFor 33 = .ok (.bipush 6, 2) := by decide +kernel
theorem dX12_neededFor_35 : decode cX12_neededFor 35 = .ok (.iaload, 1) := by decide +kernel
theorem dX12_neededFor_36 : decode cX12_neededFor 36 = .ok (.idiv, 1) := by decide +kernel
theorem dX12_neededFor_37 : decode cX12_neededFor 37 = .ok (.isub, 1) := by decide +kernel
theorem dX12_neededFor_38 : decode cX12_neededFor 38 = .ok (.invokestatic 419, 3) := by decide +kernel
theorem dX12_neededFor_41 : decode cX12_neededFor 41 = .ok (.aload_n 0, 1) := by decide +kernel
theorem dX12_neededFor_42 : decode cX12_neededFor 42 = .ok (.getfield 219, 3) := by decide +kernel
theorem dX12_neededFor_45 : decode cX12_neededFor 45 = .ok (.bipush 7, 2) := by decide +kernel
theorem dX12_neededFor_47 : decode cX12_neededFor 47 = .ok (.iaload, 1) := by decide +kernel
theorem dX12_neededFor_48 : decode cX12_neededFor 48 = .ok (.imul, 1) := by decide +kernel
theorem dX12_neededFor_49 : decode cX12_neededFor 49 = .ok (.iadd, 1) := by decide +kernel
theorem dX12_neededFor_50 : decode cX12_neededFor 50 = .ok (.istore 6, 2) := by decide +kernel
theorem dX12_neededFor_52 : decode cX12_neededFor 52 = .ok (.iload_n 3, 1) := by decide +kernel
theorem dX12_neededFor_53 : decode cX12_neededFor 53 = .ok (.iload 6, 2) := by decide +kernel
theorem dX12_neededFor_55 : decode cX12_neededFor 55 = .ok (.bipush 10, 2) := by decide +kernel
theorem dX12_neededFor_57 : decode cX12_neededFor 57 = .ok (.idiv, 1) := by decide +kernel
theorem dX12_neededFor_58 : decode cX12_neededFor 58 = .ok (.iadd, 1) := by decide +kernel
theorem dX12_neededFor_59 : decode cX12_neededFor 59 = .ok (.istore_n 3, 1) := by decide +kernel
theorem dX12_neededFor_60 : decode cX12_neededFor 60 = .ok (.iload 6, 2) := by decide +kernel
theorem dX12_neededFor_62 : decode cX12_neededFor 62 = .ok (.bipush 10, 2) := by decide +kernel
theorem dX12_neededFor_64 : decode cX12_neededFor 64 = .ok (.irem, 1) := by decide +kernel
theorem dX12_neededFor_65 : decode cX12_neededFor 65 = .ok (.istore 4, 2) := by decide +kernel
theorem dX12_neededFor_67 : decode cX12_neededFor 67 = .ok (.iinc 5 1, 3) := by decide +kernel
theorem dX12_neededFor_70 : decode cX12_neededFor 70 = .ok (.goto (-62), 3) := by decide +kernel
theorem dX12_neededFor_73 : decode cX12_neededFor 73 = .ok (.iconst (-1), 1) := by decide +kernel
theorem dX12_neededFor_74 : decode cX12_neededFor 74 = .ok (.ireturn, 1) := by decide +kernel
theorem dX12_isGoal_0 : decode cX12_isGoal 0 = .ok (.iload_n 0, 1) := by decide +kernel
theorem dX12_isGoal_1 : decode cX12_isGoal 1 = .ok (.i2l, 1) := by decide +kernel
theorem dX12_isGoal_2 : decode cX12_isGoal 2 = .ok (.lconst 1, 1) := by decide +kernel
theorem dX12_isGoal_3 : decode cX12_isGoal 3 = .ok (.ldc2_w 500, 3) := by decide +kernel
theorem dX12_isGoal_6 : decode cX12_isGoal 6 = .ok (.invokestatic 52, 3) := by decide +kernel
theorem dX12_isGoal_9 : decode cX12_isGoal 9 = .ok (.ireturn, 1) := by decide +kernel
theorem dX12_needed_0 : decode cX12_needed 0 = .ok (.iload_n 1, 1) := by decide +kernel
theorem dX12_needed_1 : decode cX12_needed 1 = .ok (.invokestatic 502, 3) := by decide +kernel
theorem dX12_needed_4 : decode cX12_needed 4 = .ok (.ifCond .eq 24, 3) := by decide +kernel
theorem dX12_needed_7 : decode cX12_needed 7 = .ok (.iload_n 2, 1) := by decide +kernel
theorem dX12_needed_8 : decode cX12_needed 8 = .ok (.i2l, 1) := by decide +kernel
theorem dX12_needed_9 : decode cX12_needed 9 = .ok (.lconst 0, 1) := by decide +kernel
theorem dX12_needed_10 : decode cX12_needed 10 = .ok (.ldc2_w 505, 3) := by decide +kernel
theorem dX12_needed_13 : decode cX12_needed 13 = .ok (.invokestatic 52, 3) := by decide +kernel
theorem dX12_needed_16 : decode cX12_needed 16 = .ok (.ifCond .eq 12, 3) := by decide +kernel
theorem dX12_needed_19 : decode cX12_needed 19 = .ok (.aload_n 0, 1) := by decide +kernel
theorem dX12_needed_20 : decode cX12_needed 20 = .ok (.iload_n 1, 1) := by decide +kernel
theorem dX12_needed_21 : decode cX12_needed 21 = .ok (.iload_n 2, 1) := by decide +kernel
theorem dX12_needed_22 : decode cX12_needed 22 = .ok (.invokevirtual 507, 3) := by decide +kernel
theorem dX12_needed_25 : decode cX12_needed 25 = .ok (.goto 5, 3) := by decide +kernel
theorem dX12_needed_28 : decode cX12_needed 28 = .ok (.bipush (-2), 2) := by decide +kernel
theorem dX12_needed_30 : decode cX12_needed 30 = .ok (.ireturn, 1) := by decide +kernel
theorem dX12_keptOf_0 : decode cX12_keptOf 0 = .ok (.iload_n 2, 1) := by decide +kernel
theorem dX12_keptOf_1 : decode cX12_keptOf 1 = .ok (.ifCond .ne 7, 3) := by decide +kernel
theorem dX12_keptOf_4 : decode cX12_keptOf 4 = .ok (.iconst (-1), 1) := by decide +kernel
theorem dX12_keptOf_5 : decode cX12_keptOf 5 = .ok (.goto 9, 3) := by decide +kernel
theorem dX12_keptOf_8 : decode cX12_keptOf 8 = .ok (.aload_n 0, 1) := by decide +kernel
theorem dX12_keptOf_9 : decode cX12_keptOf 9 = .ok (.iload_n 1, 1) := by decide +kernel
theorem dX12_keptOf_10 : decode cX12_keptOf 10 = .ok (.iload_n 2, 1) := by decide +kernel
