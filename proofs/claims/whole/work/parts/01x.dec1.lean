theorem dX8_readNumber_6 : decode cX8_readNumber 6 = .ok (.getfield 65, 3) := by decide +kernel
theorem dX8_readNumber_9 : decode cX8_readNumber 9 = .ok (.aload_n 0, 1) := by decide +kernel
theorem dX8_readNumber_10 : decode cX8_readNumber 10 = .ok (.getfield 26, 3) := by decide +kernel
theorem dX8_readNumber_13 : decode cX8_readNumber 13 = .ok (.getfield 106, 3) := by decide +kernel
theorem dX8_readNumber_16 : decode cX8_readNumber 16 = .ok (.if_icmp .ge 59, 3) := by decide +kernel
theorem dX8_readNumber_19 : decode cX8_readNumber 19 = .ok (.aload_n 0, 1) := by decide +kernel
theorem dX8_readNumber_20 : decode cX8_readNumber 20 = .ok (.getfield 26, 3) := by decide +kernel
theorem dX8_readNumber_23 : decode cX8_readNumber 23 = .ok (.aload_n 0, 1) := by decide +kernel
theorem dX8_readNumber_24 : decode cX8_readNumber 24 = .ok (.getfield 65, 3) := by decide +kernel
theorem dX8_readNumber_27 : decode cX8_readNumber 27 = .ok (.invokevirtual 92, 3) := by decide +kernel
theorem dX8_readNumber_30 : decode cX8_readNumber 30 = .ok (.invokestatic 100, 3) := by decide +kernel
theorem dX8_readNumber_33 : decode cX8_readNumber 33 = .ok (.ifCond .eq 42, 3) := by decide +kernel
theorem dX8_readNumber_36 : decode cX8_readNumber 36 = .ok (.aload_n 0, 1) := by decide +kernel
theorem dX8_readNumber_37 : decode cX8_readNumber 37 = .ok (.aload_n 0, 1) := by decide +kernel
theorem dX8_readNumber_38 : decode cX8_readNumber 38 = .ok (.getfield 112, 3) := by decide +kernel
theorem dX8_readNumber_41 : decode cX8_readNumber 41 = .ok (.bipush 10, 2) := by decide +kernel
theorem dX8_readNumber_43 : decode cX8_readNumber 43 = .ok (.imul, 1) := by decide +kernel
theorem dX8_readNumber_44 : decode cX8_readNumber 44 = .ok (.aload_n 0, 1) := by decide +kernel
theorem dX8_readNumber_45 : decode cX8_readNumber 45 = .ok (.getfield 26, 3) := by decide +kernel
theorem dX8_readNumber_48 : decode cX8_readNumber 48 = .ok (.aload_n 0, 1) := by decide +kernel
theorem dX8_readNumber_49 : decode cX8_readNumber 49 = .ok (.getfield 65, 3) := by decide +kernel
theorem dX8_readNumber_52 : decode cX8_readNumber 52 = .ok (.invokevirtual 92, 3) := by decide +kernel
theorem dX8_readNumber_55 : decode cX8_readNumber 55 = .ok (.bipush 48, 2) := by decide +kernel
theorem dX8_readNumber_57 : decode cX8_readNumber 57 = .ok (.isub, 1) := by decide +kernel
theorem dX8_readNumber_58 : decode cX8_readNumber 58 = .ok (.iadd, 1) := by decide +kernel
theorem dX8_readNumber_59 : decode cX8_readNumber 59 = .ok (.putfield 112, 3) := by decide +kernel
theorem dX8_readNumber_62 : decode cX8_readNumber 62 = .ok (.aload_n 0, 1) := by decide +kernel
theorem dX8_readNumber_63 : decode cX8_readNumber 63 = .ok (.dup, 1) := by decide +kernel
theorem dX8_readNumber_64 : decode cX8_readNumber 64 = .ok (.getfield 65, 3) := by decide +kernel
theorem dX8_readNumber_67 : decode cX8_readNumber 67 = .ok (.iconst 1, 1) := by decide +kernel
theorem dX8_readNumber_68 : decode cX8_readNumber 68 = .ok (.iadd, 1) := by decide +kernel
theorem dX8_readNumber_69 : decode cX8_readNumber 69 = .ok (.putfield 65, 3) := by decide +kernel
theorem dX8_readNumber_72 : decode cX8_readNumber 72 = .ok (.goto (-67), 3) := by decide +kernel
theorem dX8_readNumber_75 : decode cX8_readNumber 75 = .ok (.aload_n 0, 1) := by decide +kernel
theorem dX8_readNumber_76 : decode cX8_readNumber 76 = .ok (.aload_n 0, 1) := by decide +kernel
theorem dX8_readNumber_77 : decode cX8_readNumber 77 = .ok (.getfield 65, 3) := by decide +kernel
theorem dX8_readNumber_80 : decode cX8_readNumber 80 = .ok (.aload_n 0, 1) := by decide +kernel
theorem dX8_readNumber_81 : decode cX8_readNumber 81 = .ok (.getfield 86, 3) := by decide +kernel
theorem dX8_readNumber_84 : decode cX8_readNumber 84 = .ok (.isub, 1) := by decide +kernel
theorem dX8_readNumber_85 : decode cX8_readNumber 85 = .ok (.iconst 4, 1) := by decide +kernel
theorem dX8_readNumber_86 : decode cX8_readNumber 86 = .ok (.if_icmp .le 7, 3) := by decide +kernel
theorem dX8_readNumber_89 : decode cX8_readNumber 89 = .ok (.iconst 0, 1) := by decide +kernel
theorem dX8_readNumber_90 : decode cX8_readNumber 90 = .ok (.goto 4, 3) := by decide +kernel
theorem dX8_readNumber_93 : decode cX8_readNumber 93 = .ok (.iconst 2, 1) := by decide +kernel
theorem dX8_readNumber_94 : decode cX8_readNumber 94 = .ok (.putfield 80, 3) := by decide +kernel
theorem dX8_readNumber_97 : decode cX8_readNumber 97 = .ok (.return_, 1) := by decide +kernel
theorem dX8_acceptToken_0 : decode cX8_acceptToken 0 = .ok (.aload_n 0, 1) := by decide +kernel
theorem dX8_acceptToken_1 : decode cX8_acceptToken 1 = .ok (.getfield 68, 3) := by decide +kernel
theorem dX8_acceptToken_4 : decode cX8_acceptToken 4 = .ok (.ifCond .ne 8, 3) := by decide +kernel
theorem dX8_acceptToken_7 : decode cX8_acceptToken 7 = .ok (.aload_n 0, 1) := by decide +kernel
theorem dX8_acceptToken_8 : decode cX8_acceptToken 8 = .ok (.invokevirtual 115, 3) := by decide +kernel
theorem dX8_acceptToken_11 : decode cX8_acceptToken 11 = .ok (.ireturn, 1) := by decide +kernel
theorem dX8_acceptToken_12 : decode cX8_acceptToken 12 = .ok (.aload_n 0, 1) := by decide +kernel
theorem dX8_acceptToken_13 : decode cX8_acceptToken 13 = .ok (.getfield 68, 3) := by decide +kernel
theorem dX8_acceptToken_16 : decode cX8_acceptToken 16 = .ok (.getstatic 9, 3) := by decide +kernel
theorem dX8_acceptToken_19 : decode cX8_acceptToken 19 = .ok (.aload_n 0, 1) := by decide +kernel
theorem dX8_acceptToken_20 : decode cX8_acceptToken 20 = .ok (.getfield 71, 3) := by decide +kernel
theorem dX8_acceptToken_23 : decode cX8_acceptToken 23 = .ok (.iaload, 1) := by decide +kernel
theorem dX8_acceptToken_24 : decode cX8_acceptToken 24 = .ok (.if_icmp .gt 8, 3) := by decide +kernel
theorem dX8_acceptToken_27 : decode cX8_acceptToken 27 = .ok (.aload_n 0, 1) := by decide +kernel
theorem dX8_acceptToken_28 : decode cX8_acceptToken 28 = .ok (.invokevirtual 118, 3) := by decide +kernel
theorem dX8_acceptToken_31 : decode cX8_acceptToken 31 = .ok (.ireturn, 1) := by decide +kernel
theorem dX8_acceptToken_32 : decode cX8_acceptToken 32 = .ok (.aload_n 0, 1) := by decide +kernel
theorem dX8_acceptToken_33 : decode cX8_acceptToken 33 = .ok (.getfield 68, 3) := by decide +kernel
theorem dX8_acceptToken_36 : decode cX8_acceptToken 36 = .ok (.getstatic 9, 3) := by decide +kernel
theorem dX8_acceptToken_39 : decode cX8_acceptToken 39 = .ok (.aload_n 0, 1) := by decide +kernel
theorem dX8_acceptToken_40 : decode cX8_acceptToken 40 = .ok (.getfield 71, 3) := by decide +kernel
theorem dX8_acceptToken_43 : decode cX8_acceptToken 43 = .ok (.iaload, 1) := by decide +kernel
theorem dX8_acceptToken_44 : decode cX8_acceptToken 44 = .ok (.isub, 1) := by decide +kernel
theorem dX8_acceptToken_45 : decode cX8_acceptToken 45 = .ok (.iconst 1, 1) := by decide +kernel
theorem dX8_acceptToken_46 : decode cX8_acceptToken 46 = .ok (.isub, 1) := by decide +kernel
theorem dX8_acceptToken_47 : decode cX8_acceptToken 47 = .ok (.istore_n 1, 1) := by decide +kernel
theorem dX8_acceptToken_48 : decode cX8_acceptToken 48 = .ok (.iload_n 1, 1) := by decide +kernel
theorem dX8_acceptToken_49 : decode cX8_acceptToken 49 = .ok (.getstatic 121, 3) := by decide +kernel
theorem dX8_acceptToken_52 : decode cX8_acceptToken 52 = .ok (.aload_n 0, 1) := by decide +kernel
theorem dX8_acceptToken_53 : decode cX8_acceptToken 53 = .ok (.getfield 71, 3) := by decide +kernel
theorem dX8_acceptToken_56 : decode cX8_acceptToken 56 = .ok (.iaload, 1) := by decide +kernel
theorem dX8_acceptToken_57 : decode cX8_acceptToken 57 = .ok (.if_icmp .ge 9, 3) := by decide +kernel
theorem dX8_acceptToken_60 : decode cX8_acceptToken 60 = .ok (.aload_n 0, 1) := by decide +kernel
theorem dX8_acceptToken_61 : decode cX8_acceptToken 61 = .ok (.iload_n 1, 1) := by decide +kernel
theorem dX8_acceptToken_62 : decode cX8_acceptToken 62 = .ok (.invokevirtual 124, 3) := by decide +kernel
theorem dX8_acceptToken_65 : decode cX8_acceptToken 65 = .ok (.ireturn, 1) := by decide +kernel
theorem dX8_acceptToken_66 : decode cX8_acceptToken 66 = .ok (.aload_n 0, 1) := by decide +kernel
theorem dX8_acceptToken_67 : decode cX8_acceptToken 67 = .ok (.getfield 80, 3) := by decide +kernel
theorem dX8_acceptToken_70 : decode cX8_acceptToken 70 = .ok (.iconst 3, 1) := by decide +kernel
theorem dX8_acceptToken_71 : decode cX8_acceptToken 71 = .ok (.if_icmp .eq 5, 3) := by decide +kernel
theorem dX8_acceptToken_74 : decode cX8_acceptToken 74 = .ok (.iconst 1, 1) := by decide +kernel
theorem dX8_acceptToken_75 : decode cX8_acceptToken 75 = .ok (.ireturn, 1) := by decide +kernel
theorem dX8_acceptToken_76 : decode cX8_acceptToken 76 = .ok (.aload_n 0, 1) := by decide +kernel
theorem dX8_acceptToken_77 : decode cX8_acceptToken 77 = .ok (.invokevirtual 127, 3) := by decide +kernel
theorem dX8_acceptToken_80 : decode cX8_acceptToken 80 = .ok (.aload_n 0, 1) := by decide +kernel
theorem dX8_acceptToken_81 : decode cX8_acceptToken 81 = .ok (.iconst 0, 1) := by decide +kernel
theorem dX8_acceptToken_82 : decode cX8_acceptToken 82 = .ok (.putfield 68, 3) := by decide +kernel
theorem dX8_acceptToken_85 : decode cX8_acceptToken 85 = .ok (.iconst 0, 1) := by decide +kernel
theorem dX8_acceptToken_86 : decode cX8_acceptToken 86 = .ok (.ireturn, 1) := by decide +kernel
theorem dX8_acceptKeyword_0 : decode cX8_acceptKeyword 0 = .ok (.aload_n 0, 1) := by decide +kernel
theorem dX8_acceptKeyword_1 : decode cX8_acceptKeyword 1 = .ok (.getfield 80, 3) := by decide +kernel
theorem dX8_acceptKeyword_4 : decode cX8_acceptKeyword 4 = .ok (.iconst 1, 1) := by decide +kernel
theorem dX8_acceptKeyword_5 : decode cX8_acceptKeyword 5 = .ok (.if_icmp .ne 22, 3) := by decide +kernel
theorem dX8_acceptKeyword_8 : decode cX8_acceptKeyword 8 = .ok (.aload_n 0, 1) := by decide +kernel
theorem dX8_acceptKeyword_9 : decode cX8_acceptKeyword 9 = .ok (.getfield 15, 3) := by decide +kernel
theorem dX8_acceptKeyword_12 : decode cX8_acceptKeyword 12 = .ok (.aload_n 0, 1) := by decide +kernel
theorem dX8_acceptKeyword_13 : decode cX8_acceptKeyword 13 = .ok (.getfield 15, 3) := by decide +kernel
theorem dX8_acceptKeyword_16 : decode cX8_acceptKeyword 16 = .ok (.arraylength, 1) := by decide +kernel
theorem dX8_acceptKeyword_17 : decode cX8_acceptKeyword 17 = .ok (.aload_n 0, 1) := by decide +kernel
theorem dX8_acceptKeyword_18 : decode cX8_acceptKeyword 18 = .ok (.getfield 108, 3) := by decide +kernel
theorem dX8_acceptKeyword_21 : decode cX8_acceptKeyword 21 = .ok (.invokestatic 130, 3) := by decide +kernel
theorem dX8_acceptKeyword_24 : decode cX8_acceptKeyword 24 = .ok (.goto 4, 3) := by decide +kernel
theorem dX8_acceptKeyword_27 : decode cX8_acceptKeyword 27 = .ok (.iconst (-1), 1) := by decide +kernel
theorem dX8_acceptKeyword_28 : decode cX8_acceptKeyword 28 = .ok (.istore_n 1, 1) := by decide +kernel
theorem dX8_acceptKeyword_29 : decode cX8_acceptKeyword 29 = .ok (.iload_n 1, 1) := by decide +kernel
theorem dX8_acceptKeyword_30 : decode cX8_acceptKeyword 30 = .ok (.iconst (-1), 1) := by decide +kernel
theorem dX8_acceptKeyword_31 : decode cX8_acceptKeyword 31 = .ok (.if_icmp .ne 5, 3) := by decide +kernel
theorem dX8_acceptKeyword_34 : decode cX8_acceptKeyword 34 = .ok (.iconst 1, 1) := by decide +kernel
theorem dX8_acceptKeyword_35 : decode cX8_acceptKeyword 35 = .ok (.ireturn, 1) := by decide +kernel
theorem dX8_acceptKeyword_36 : decode cX8_acceptKeyword 36 = .ok (.aload_n 0, 1) := by decide +kernel
theorem dX8_acceptKeyword_37 : decode cX8_acceptKeyword 37 = .ok (.iload_n 1, 1) := by decide +kernel
theorem dX8_acceptKeyword_38 : decode cX8_acceptKeyword 38 = .ok (.putfield 71, 3) := by decide +kernel
theorem dX8_acceptKeyword_41 : decode cX8_acceptKeyword 41 = .ok (.aload_n 0, 1) := by decide +kernel
theorem dX8_acceptKeyword_42 : decode cX8_acceptKeyword 42 = .ok (.iconst 1, 1) := by decide +kernel
theorem dX8_acceptKeyword_43 : decode cX8_acceptKeyword 43 = .ok (.putfield 68, 3) := by decide +kernel
theorem dX8_acceptKeyword_46 : decode cX8_acceptKeyword 46 = .ok (.aload_n 0, 1) := by decide +kernel
theorem dX8_acceptKeyword_47 : decode cX8_acceptKeyword 47 = .ok (.getfield 71, 3) := by decide +kernel
theorem dX8_acceptKeyword_50 : decode cX8_acceptKeyword 50 = .ok (.iconst 5, 1) := by decide +kernel
theorem dX8_acceptKeyword_51 : decode cX8_acceptKeyword 51 = .ok (.if_icmp .lt 22, 3) := by decide +kernel
theorem dX8_acceptKeyword_54 : decode cX8_acceptKeyword 54 = .ok (.aload_n 0, 1) := by decide +kernel
theorem dX8_acceptKeyword_55 : decode cX8_acceptKeyword 55 = .ok (.getfield 30, 3) := by decide +kernel
theorem dX8_acceptKeyword_58 : decode cX8_acceptKeyword 58 = .ok (.aload_n 0, 1) := by decide +kernel
theorem dX8_acceptKeyword_59 : decode cX8_acceptKeyword 59 = .ok (.getfield 71, 3) := by decide +kernel
theorem dX8_acceptKeyword_62 : decode cX8_acceptKeyword 62 = .ok (.invokestatic 134, 3) := by decide +kernel
theorem dX8_acceptKeyword_65 : decode cX8_acceptKeyword 65 = .ok (.invokevirtual 137, 3) := by decide +kernel
theorem dX8_acceptKeyword_68 : decode cX8_acceptKeyword 68 = .ok (.ifCond .eq 5, 3) := by decide +kernel
theorem dX8_acceptKeyword_71 : decode cX8_acceptKeyword 71 = .ok (.iconst 3, 1) := by decide +kernel
theorem dX8_acceptKeyword_72 : decode cX8_acceptKeyword 72 = .ok (.ireturn, 1) := by decide +kernel
theorem dX8_acceptKeyword_73 : decode cX8_acceptKeyword 73 = .ok (.aload_n 0, 1) := by decide +kernel
theorem dX8_acceptKeyword_74 : decode cX8_acceptKeyword 74 = .ok (.invokevirtual 140, 3) := by decide +kernel
theorem dX8_acceptKeyword_77 : decode cX8_acceptKeyword 77 = .ok (.ifCond .eq 7, 3) := by decide +kernel
theorem dX8_acceptKeyword_80 : decode cX8_acceptKeyword 80 = .ok (.iconst 0, 1) := by decide +kernel
theorem dX8_acceptKeyword_81 : decode cX8_acceptKeyword 81 = .ok (.goto 4, 3) := by decide +kernel
theorem dX8_acceptKeyword_84 : decode cX8_acceptKeyword 84 = .ok (.iconst 4, 1) := by decide +kernel
theorem dX8_acceptKeyword_85 : decode cX8_acceptKeyword 85 = .ok (.ireturn, 1) := by decide +kernel
theorem dX8_settingOf_0 : decode cX8_settingOf 0 = .ok (.iload_n 0, 1) := by decide +kernel
theorem dX8_settingOf_1 : decode cX8_settingOf 1 = .ok (.iconst 5, 1) := by decide +kernel
theorem dX8_settingOf_2 : decode cX8_settingOf 2 = .ok (.if_icmp .ne 8, 3) := by decide +kernel
theorem dX8_settingOf_5 : decode cX8_settingOf 5 = .ok (.bipush 12, 2) := by decide +kernel
theorem dX8_settingOf_7 : decode cX8_settingOf 7 = .ok (.goto 9, 3) := by decide +kernel
theorem dX8_settingOf_10 : decode cX8_settingOf 10 = .ok (.iload_n 0, 1) := by decide +kernel
theorem dX8_settingOf_11 : decode cX8_settingOf 11 = .ok (.bipush 6, 2) := by decide +kernel
theorem dX8_settingOf_13 : decode cX8_settingOf 13 = .ok (.isub, 1) := by decide +kernel
theorem dX8_settingOf_14 : decode cX8_settingOf 14 = .ok (.iconst 3, 1) := by decide +kernel
theorem dX8_settingOf_15 : decode cX8_settingOf 15 = .ok (.iadd, 1) := by decide +kernel
theorem dX8_settingOf_16 : decode cX8_settingOf 16 = .ok (.ireturn, 1) := by decide +kernel
theorem dX8_hasRoom_0 : decode cX8_hasRoom 0 = .ok (.aload_n 0, 1) := by decide +kernel
theorem dX8_hasRoom_1 : decode cX8_hasRoom 1 = .ok (.getfield 71, 3) := by decide +kernel
theorem dX8_hasRoom_4 : decode cX8_hasRoom 4 = .ok (.tableswitch 87 0 4 #[36, 53, 87, 87, 70], 36) := by decide +kernel
theorem dX8_hasRoom_40 : decode cX8_hasRoom 40 = .ok (.aload_n 0, 1) := by decide +kernel
theorem dX8_hasRoom_41 : decode cX8_hasRoom 41 = .ok (.getfield 30, 3) := by decide +kernel
theorem dX8_hasRoom_44 : decode cX8_hasRoom 44 = .ok (.getfield 144, 3) := by decide +kernel
theorem dX8_hasRoom_47 : decode cX8_hasRoom 47 = .ok (.iconst 5, 1) := by decide +kernel
theorem dX8_hasRoom_48 : decode cX8_hasRoom 48 = .ok (.if_icmp .ge 7, 3) := by decide +kernel
theorem dX8_hasRoom_51 : decode cX8_hasRoom 51 = .ok (.iconst 1, 1) := by decide +kernel
theorem dX8_hasRoom_52 : decode cX8_hasRoom 52 = .ok (.goto 4, 3) := by decide +kernel
theorem dX8_hasRoom_55 : decode cX8_hasRoom 55 = .ok (.iconst 0, 1) := by decide +kernel
theorem dX8_hasRoom_56 : decode cX8_hasRoom 56 = .ok (.ireturn, 1) := by decide +kernel
theorem dX8_hasRoom_57 : decode cX8_hasRoom 57 = .ok (.aload_n 0, 1) := by decide +kernel
theorem dX8_hasRoom_58 : decode cX8_hasRoom 58 = .ok (.getfield 30, 3) := by decide +kernel
theorem dX8_hasRoom_61 : decode cX8_hasRoom 61 = .ok (.getfield 147, 3) := by decide +kernel
theorem dX8_hasRoom_64 : decode cX8_hasRoom 64 = .ok (.iconst 4, 1) := by decide +kernel
theorem dX8_hasRoom_65 : decode cX8_hasRoom 65 = .ok (.if_icmp .ge 7, 3) := by decide +kernel
theorem dX8_hasRoom_68 : decode cX8_hasRoom 68 = .ok (.iconst 1, 1) := by decide +kernel
theorem dX8_hasRoom_69 : decode cX8_hasRoom 69 = .ok (.goto 4, 3) := by decide +kernel
theorem dX8_hasRoom_72 : decode cX8_hasRoom 72 = .ok (.iconst 0, 1) := by decide +kernel
theorem dX8_hasRoom_73 : decode cX8_hasRoom 73 = .ok (.ireturn, 1) := by decide +kernel
theorem dX8_hasRoom_74 : decode cX8_hasRoom 74 = .ok (.aload_n 0, 1) := by decide +kernel
theorem dX8_hasRoom_75 : decode cX8_hasRoom 75 = .ok (.getfield 30, 3) := by decide +kernel
theorem dX8_hasRoom_78 : decode cX8_hasRoom 78 = .ok (.getfield 150, 3) := by decide +kernel
theorem dX8_hasRoom_81 : decode cX8_hasRoom 81 = .ok (.iconst 4, 1) := by decide +kernel
theorem dX8_hasRoom_82 : decode cX8_hasRoom 82 = .ok (.if_icmp .ge 7, 3) := by decide +kernel
theorem dX8_hasRoom_85 : decode cX8_hasRoom 85 = .ok (.iconst 1, 1) := by decide +kernel
theorem dX8_hasRoom_86 : decode cX8_hasRoom 86 = .ok (.goto 4, 3) := by decide +kernel
theorem dX8_hasRoom_89 : decode cX8_hasRoom 89 = .ok (.iconst 0, 1) := by decide +kernel
theorem dX8_hasRoom_90 : decode cX8_hasRoom 90 = .ok (.ireturn, 1) := by decide +kernel
theorem dX8_hasRoom_91 : decode cX8_hasRoom 91 = .ok (.iconst 1, 1) := by decide +kernel
theorem dX8_hasRoom_92 : decode cX8_hasRoom 92 = .ok (.ireturn, 1) := by decide +kernel
theorem dX8_acceptName_0 : decode cX8_acceptName 0 = .ok (.aload_n 0, 1) := by decide +kernel
theorem dX8_acceptName_1 : decode cX8_acceptName 1 = .ok (.getfield 80, 3) := by decide +kernel
theorem dX8_acceptName_4 : decode cX8_acceptName 4 = .ok (.iconst 1, 1) := by decide +kernel
theorem dX8_acceptName_5 : decode cX8_acceptName 5 = .ok (.if_icmp .eq 5, 3) := by decide +kernel
theorem dX8_acceptName_8 : decode cX8_acceptName 8 = .ok (.iconst 1, 1) := by decide +kernel
theorem dX8_acceptName_9 : decode cX8_acceptName 9 = .ok (.ireturn, 1) := by decide +kernel
theorem dX8_acceptName_10 : decode cX8_acceptName 10 = .ok (.aload_n 0, 1) := by decide +kernel
theorem dX8_acceptName_11 : decode cX8_acceptName 11 = .ok (.dup, 1) := by decide +kernel
theorem dX8_acceptName_12 : decode cX8_acceptName 12 = .ok (.getfield 68, 3) := by decide +kernel
theorem dX8_acceptName_15 : decode cX8_acceptName 15 = .ok (.iconst 1, 1) := by decide +kernel
theorem dX8_acceptName_16 : decode cX8_acceptName 16 = .ok (.iadd, 1) := by decide +kernel
theorem dX8_acceptName_17 : decode cX8_acceptName 17 = .ok (.putfield 68, 3) := by decide +kernel
theorem dX8_acceptName_20 : decode cX8_acceptName 20 = .ok (.aload_n 0, 1) := by decide +kernel
theorem dX8_acceptName_21 : decode cX8_acceptName 21 = .ok (.getfield 71, 3) := by decide +kernel
theorem dX8_acceptName_24 : decode cX8_acceptName 24 = .ok (.tableswitch 93 0 4 #[36, 55, 93, 93, 74], 36) := by decide +kernel
theorem dX8_acceptName_60 : decode cX8_acceptName 60 = .ok (.aload_n 0, 1) := by decide +kernel
theorem dX8_acceptName_61 : decode cX8_acceptName 61 = .ok (.aload_n 0, 1) := by decide +kernel
theorem dX8_acceptName_62 : decode cX8_acceptName 62 = .ok (.getfield 30, 3) := by decide +kernel
theorem dX8_acceptName_65 : decode cX8_acceptName 65 = .ok (.getfield 153, 3) := by decide +kernel
theorem dX8_acceptName_68 : decode cX8_acceptName 68 = .ok (.aload_n 0, 1) := by decide +kernel
theorem dX8_acceptName_69 : decode cX8_acceptName 69 = .ok (.getfield 30, 3) := by decide +kernel
theorem dX8_acceptName_72 : decode cX8_acceptName 72 = .ok (.getfield 144, 3) := by decide +kernel
theorem dX8_acceptName_75 : decode cX8_acceptName 75 = .ok (.invokevirtual 156, 3) := by decide +kernel
theorem dX8_acceptName_78 : decode cX8_acceptName 78 = .ok (.ireturn, 1) := by decide +kernel
theorem dX8_acceptName_79 : decode cX8_acceptName 79 = .ok (.aload_n 0, 1) := by decide +kernel
theorem dX8_acceptName_80 : decode cX8_acceptName 80 = .ok (.aload_n 0, 1) := by decide +kernel
theorem dX8_acceptName_81 : decode cX8_acceptName 81 = .ok (.getfield 30, 3) := by decide +kernel
theorem dX8_acceptName_84 : decode cX8_acceptName 84 = .ok (.getfield 160, 3) := by decide +kernel
theorem dX8_acceptName_87 : decode cX8_acceptName 87 = .ok (.aload_n 0, 1) := by decide +kernel
theorem dX8_acceptName_88 : decode cX8_acceptName 88 = .ok (.getfield 30, 3) := by decide +kernel
theorem dX8_acceptName_91 : decode cX8_acceptName 91 = .ok (.getfield 147, 3) := by decide +kernel
theorem dX8_acceptName_94 : decode cX8_acceptName 94 = .ok (.invokevirtual 156, 3) := by decide +kernel
theorem dX8_acceptName_97 : decode cX8_acceptName 97 = .ok (.ireturn, 1) := by decide +kernel
theorem dX8_acceptName_98 : decode cX8_acceptName 98 = .ok (.aload_n 0, 1) := by decide +kernel
theorem dX8_acceptName_99 : decode cX8_acceptName 99 = .ok (.aload_n 0, 1) := by decide +kernel
theorem dX8_acceptName_100 : decode cX8_acceptName 100 = .ok (.getfield 30, 3) := by decide +kernel
theorem dX8_acceptName_103 : decode cX8_acceptName 103 = .ok (.getfield 163, 3) := by decide +kernel
theorem dX8_acceptName_106 : decode cX8_acceptName 106 = .ok (.aload_n 0, 1) := by decide +kernel
theorem dX8_acceptName_107 : decode cX8_acceptName 107 = .ok (.getfield 30, 3) := by decide +kernel
theorem dX8_acceptName_110 : decode cX8_acceptName 110 = .ok (.getfield 150, 3) := by decide +kernel
theorem dX8_acceptName_113 : decode cX8_acceptName 113 = .ok (.invokevirtual 156, 3) := by decide +kernel
theorem dX8_acceptName_116 : decode cX8_acceptName 116 = .ok (.ireturn, 1) := by decide +kernel
theorem dX8_acceptName_117 : decode cX8_acceptName 117 = .ok (.aload_n 0, 1) := by decide +kernel
theorem dX8_acceptName_118 : decode cX8_acceptName 118 = .ok (.invokevirtual 166, 3) := by decide +kernel
theorem dX8_acceptName_121 : decode cX8_acceptName 121 = .ok (.ireturn, 1) := by decide +kernel
theorem dX8_acceptNewName_0 : decode cX8_acceptNewName 0 = .ok (.aload_n 0, 1) := by decide +kernel
theorem dX8_acceptNewName_1 : decode cX8_acceptNewName 1 = .ok (.aload_n 0, 1) := by decide +kernel
theorem dX8_acceptNewName_2 : decode cX8_acceptNewName 2 = .ok (.getfield 108, 3) := by decide +kernel
theorem dX8_acceptNewName_5 : decode cX8_acceptNewName 5 = .ok (.putfield 169, 3) := by decide +kernel
theorem dX8_acceptNewName_8 : decode cX8_acceptNewName 8 = .ok (.aload_n 1, 1) := by decide +kernel
theorem dX8_acceptNewName_9 : decode cX8_acceptNewName 9 = .ok (.iload_n 2, 1) := by decide +kernel
theorem dX8_acceptNewName_10 : decode cX8_acceptNewName 10 = .ok (.aload_n 0, 1) := by decide +kernel
theorem dX8_acceptNewName_11 : decode cX8_acceptNewName 11 = .ok (.getfield 108, 3) := by decide +kernel
theorem dX8_acceptNewName_14 : decode cX8_acceptNewName 14 = .ok (.invokestatic 130, 3) := by decide +kernel
theorem dX8_acceptNewName_17 : decode cX8_acceptNewName 17 = .ok (.iconst (-1), 1) := by decide +kernel
theorem dX8_acceptNewName_18 : decode cX8_acceptNewName 18 = .ok (.if_icmp .ne 7, 3) := by decide +kernel
theorem dX8_acceptNewName_21 : decode cX8_acceptNewName 21 = .ok (.iconst 0, 1) := by decide +kernel
theorem dX8_acceptNewName_22 : decode cX8_acceptNewName 22 = .ok (.goto 4, 3) := by decide +kernel
theorem dX8_acceptNewName_25 : decode cX8_acceptNewName 25 = .ok (.iconst 3, 1) := by decide +kernel
theorem dX8_acceptNewName_26 : decode cX8_acceptNewName 26 = .ok (.ireturn, 1) := by decide +kernel
theorem dX8_acceptHutName_0 : decode cX8_acceptHutName 0 = .ok (.aload_n 0, 1) := by decide +kernel
theorem dX8_acceptHutName_1 : decode cX8_acceptHutName 1 = .ok (.getfield 30, 3) := by decide +kernel
theorem dX8_acceptHutName_4 : decode cX8_acceptHutName 4 = .ok (.getfield 153, 3) := by decide +kernel
theorem dX8_acceptHutName_7 : decode cX8_acceptHutName 7 = .ok (.aload_n 0, 1) := by decide +kernel
theorem dX8_acceptHutName_8 : decode cX8_acceptHutName 8 = .ok (.getfield 30, 3) := by decide +kernel
theorem dX8_acceptHutName_11 : decode cX8_acceptHutName 11 = .ok (.getfield 144, 3) := by decide +kernel
theorem dX8_acceptHutName_14 : decode cX8_acceptHutName 14 = .ok (.aload_n 0, 1) := by decide +kernel
theorem dX8_acceptHutName_15 : decode cX8_acceptHutName 15 = .ok (.getfield 108, 3) := by decide +kernel
theorem dX8_acceptHutName_18 : decode cX8_acceptHutName 18 = .ok (.invokestatic 130, 3) := by decide +kernel
theorem dX8_acceptHutName_21 : decode cX8_acceptHutName 21 = .ok (.istore_n 1, 1) := by decide +kernel
theorem dX8_acceptHutName_22 : decode cX8_acceptHutName 22 = .ok (.iload_n 1, 1) := by decide +kernel
theorem dX8_acceptHutName_23 : decode cX8_acceptHutName 23 = .ok (.iconst (-1), 1) := by decide +kernel
theorem dX8_acceptHutName_24 : decode cX8_acceptHutName 24 = .ok (.if_icmp .ne 5, 3) := by decide +kernel
theorem dX8_acceptHutName_27 : decode cX8_acceptHutName 27 = .ok (.iconst 5, 1) := by decide +kernel
theorem dX8_acceptHutName_28 : decode cX8_acceptHutName 28 = .ok (.ireturn, 1) := by decide +kernel
theorem dX8_acceptHutName_29 : decode cX8_acceptHutName 29 = .ok (.aload_n 0, 1) := by decide +kernel
theorem dX8_acceptHutName_30 : decode cX8_acceptHutName 30 = .ok (.getfield 71, 3) := by decide +kernel
theorem dX8_acceptHutName_33 : decode cX8_acceptHutName 33 = .ok (.iconst 2, 1) := by decide +kernel
theorem dX8_acceptHutName_34 : decode cX8_acceptHutName 34 = .ok (.if_icmp .ne 27, 3) := by decide +kernel
theorem dX8_acceptHutName_37 : decode cX8_acceptHutName 37 = .ok (.aload_n 0, 1) := by decide +kernel
theorem dX8_acceptHutName_38 : decode cX8_acceptHutName 38 = .ok (.iload_n 1, 1) := by decide +kernel
theorem dX8_acceptHutName_39 : decode cX8_acceptHutName 39 = .ok (.putfield 172, 3) := by decide +kernel
theorem dX8_acceptHutName_42 : decode cX8_acceptHutName 42 = .ok (.aload_n 0, 1) := by decide +kernel
theorem dX8_acceptHutName_43 : decode cX8_acceptHutName 43 = .ok (.getfield 30, 3) := by decide +kernel
theorem dX8_acceptHutName_46 : decode cX8_acceptHutName 46 = .ok (.getfield 175, 3) := by decide +kernel
theorem dX8_acceptHutName_49 : decode cX8_acceptHutName 49 = .ok (.iload_n 1, 1) := by decide +kernel
theorem dX8_acceptHutName_50 : decode cX8_acceptHutName 50 = .ok (.iaload, 1) := by decide +kernel
theorem dX8_acceptHutName_51 : decode cX8_acceptHutName 51 = .ok (.iconst (-1), 1) := by decide +kernel
theorem dX8_acceptHutName_52 : decode cX8_acceptHutName 52 = .ok (.if_icmp .ne 7, 3) := by decide +kernel
theorem dX8_acceptHutName_55 : decode cX8_acceptHutName 55 = .ok (.iconst 0, 1) := by decide +kernel
theorem dX8_acceptHutName_56 : decode cX8_acceptHutName 56 = .ok (.goto 4, 3) := by decide +kernel
theorem dX8_acceptHutName_59 : decode cX8_acceptHutName 59 = .ok (.iconst 3, 1) := by decide +kernel
theorem dX8_acceptHutName_60 : decode cX8_acceptHutName 60 = .ok (.ireturn, 1) := by decide +kernel
theorem dX8_acceptHutName_61 : decode cX8_acceptHutName 61 = .ok (.aload_n 0, 1) := by decide +kernel
theorem dX8_acceptHutName_62 : decode cX8_acceptHutName 62 = .ok (.getfield 68, 3) := by decide +kernel
theorem dX8_acceptHutName_65 : decode cX8_acceptHutName 65 = .ok (.iconst 2, 1) := by decide +kernel
theorem dX8_acceptHutName_66 : decode cX8_acceptHutName 66 = .ok (.if_icmp .ne 10, 3) := by decide +kernel
theorem dX8_acceptHutName_69 : decode cX8_acceptHutName 69 = .ok (.aload_n 0, 1) := by decide +kernel
theorem dX8_acceptHutName_70 : decode cX8_acceptHutName 70 = .ok (.iload_n 1, 1) := by decide +kernel
theorem dX8_acceptHutName_71 : decode cX8_acceptHutName 71 = .ok (.putfield 172, 3) := by decide +kernel
theorem dX8_acceptHutName_74 : decode cX8_acceptHutName 74 = .ok (.iconst 0, 1) := by decide +kernel
theorem dX8_acceptHutName_75 : decode cX8_acceptHutName 75 = .ok (.ireturn, 1) := by decide +kernel
theorem dX8_acceptHutName_76 : decode cX8_acceptHutName 76 = .ok (.aload_n 0, 1) := by decide +kernel
theorem dX8_acceptHutName_77 : decode cX8_acceptHutName 77 = .ok (.iload_n 1, 1) := by decide +kernel
theorem dX8_acceptHutName_78 : decode cX8_acceptHutName 78 = .ok (.putfield 178, 3) := by decide +kernel
theorem dX8_acceptHutName_81 : decode cX8_acceptHutName 81 = .ok (.iload_n 1, 1) := by decide +kernel
theorem dX8_acceptHutName_82 : decode cX8_acceptHutName 82 = .ok (.aload_n 0, 1) := by decide +kernel
theorem dX8_acceptHutName_83 : decode cX8_acceptHutName 83 = .ok (.getfield 172, 3) := by decide +kernel
theorem dX8_acceptHutName_86 : decode cX8_acceptHutName 86 = .ok (.if_icmp .eq 18, 3) := by decide +kernel
theorem dX8_acceptHutName_89 : decode cX8_acceptHutName 89 = .ok (.aload_n 0, 1) := by decide +kernel
theorem dX8_acceptHutName_90 : decode cX8_acceptHutName 90 = .ok (.getfield 30, 3) := by decide +kernel
theorem dX8_acceptHutName_93 : decode cX8_acceptHutName 93 = .ok (.aload_n 0, 1) := by decide +kernel
theorem dX8_acceptHutName_94 : decode cX8_acceptHutName 94 = .ok (.getfield 172, 3) := by decide +kernel
theorem dX8_acceptHutName_97 : decode cX8_acceptHutName 97 = .ok (.iload_n 1, 1) := by decide +kernel
theorem dX8_acceptHutName_98 : decode cX8_acceptHutName 98 = .ok (.invokevirtual 181, 3) := by decide +kernel
theorem dX8_acceptHutName_101 : decode cX8_acceptHutName 101 = .ok (.ifCond .eq 7, 3) := by decide +kernel
theorem dX8_acceptHutName_104 : decode cX8_acceptHutName 104 = .ok (.iconst 3, 1) := by decide +kernel
theorem dX8_acceptHutName_105 : decode cX8_acceptHutName 105 = .ok (.goto 4, 3) := by decide +kernel
theorem dX8_acceptHutName_108 : decode cX8_acceptHutName 108 = .ok (.iconst 0, 1) := by decide +kernel
theorem dX8_acceptHutName_109 : decode cX8_acceptHutName 109 = .ok (.ireturn, 1) := by decide +kernel
theorem dX8_acceptNumber_0 : decode cX8_acceptNumber 0 = .ok (.aload_n 0, 1) := by decide +kernel
theorem dX8_acceptNumber_1 : decode cX8_acceptNumber 1 = .ok (.getfield 80, 3) := by decide +kernel
theorem dX8_acceptNumber_4 : decode cX8_acceptNumber 4 = .ok (.iconst 2, 1) := by decide +kernel
theorem dX8_acceptNumber_5 : decode cX8_acceptNumber 5 = .ok (.if_icmp .ne 16, 3) := by decide +kernel
theorem dX8_acceptNumber_8 : decode cX8_acceptNumber 8 = .ok (.iload_n 1, 1) := by decide +kernel
theorem dX8_acceptNumber_9 : decode cX8_acceptNumber 9 = .ok (.ifCond .lt 12, 3) := by decide +kernel
theorem dX8_acceptNumber_12 : decode cX8_acceptNumber 12 = .ok (.iload_n 1, 1) := by decide +kernel
theorem dX8_acceptNumber_13 : decode cX8_acceptNumber 13 = .ok (.aload_n 0, 1) := by decide +kernel
theorem dX8_acceptNumber_14 : decode cX8_acceptNumber 14 = .ok (.getfield 19, 3) := by decide +kernel
theorem dX8_acceptNumber_17 : decode cX8_acceptNumber 17 = .ok (.arraylength, 1) := by decide +kernel
theorem dX8_acceptNumber_18 : decode cX8_acceptNumber 18 = .ok (.if_icmp .lt 5, 3) := by decide +kernel
theorem dX8_acceptNumber_21 : decode cX8_acceptNumber 21 = .ok (.iconst 1, 1) := by decide +kernel
theorem dX8_acceptNumber_22 : decode cX8_acceptNumber 22 = .ok (.ireturn, 1) := by decide +kernel
theorem dX8_acceptNumber_23 : decode cX8_acceptNumber 23 = .ok (.getstatic 185, 3) := by decide +kernel
theorem dX8_acceptNumber_26 : decode cX8_acceptNumber 26 = .ok (.aload_n 0, 1) := by decide +kernel
theorem dX8_acceptNumber_27 : decode cX8_acceptNumber 27 = .ok (.getfield 71, 3) := by decide +kernel
theorem dX8_acceptNumber_30 : decode cX8_acceptNumber 30 = .ok (.iaload, 1) := by decide +kernel
theorem dX8_acceptNumber_31 : decode cX8_acceptNumber 31 = .ok (.iload_n 1, 1) := by decide +kernel
theorem dX8_acceptNumber_32 : decode cX8_acceptNumber 32 = .ok (.iadd, 1) := by decide +kernel
theorem dX8_acceptNumber_33 : decode cX8_acceptNumber 33 = .ok (.istore_n 2, 1) := by decide +kernel
theorem dX8_acceptNumber_34 : decode cX8_acceptNumber 34 = .ok (.aload_n 0, 1) := by decide +kernel
theorem dX8_acceptNumber_35 : decode cX8_acceptNumber 35 = .ok (.getfield 112, 3) := by decide +kernel
theorem dX8_acceptNumber_38 : decode cX8_acceptNumber 38 = .ok (.getstatic 188, 3) := by decide +kernel
theorem dX8_acceptNumber_41 : decode cX8_acceptNumber 41 = .ok (.iload_n 2, 1) := by decide +kernel
theorem dX8_acceptNumber_42 : decode cX8_acceptNumber 42 = .ok (.iaload, 1) := by decide +kernel
theorem dX8_acceptNumber_43 : decode cX8_acceptNumber 43 = .ok (.if_icmp .lt 15, 3) := by decide +kernel
theorem dX8_acceptNumber_46 : decode cX8_acceptNumber 46 = .ok (.aload_n 0, 1) := by decide +kernel
theorem dX8_acceptNumber_47 : decode cX8_acceptNumber 47 = .ok (.getfield 112, 3) := by decide +kernel
theorem dX8_acceptNumber_50 : decode cX8_acceptNumber 50 = .ok (.getstatic 191, 3) := by decide +kernel
theorem dX8_acceptNumber_53 : decode cX8_acceptNumber 53 = .ok (.iload_n 2, 1) := by decide +kernel
theorem dX8_acceptNumber_54 : decode cX8_acceptNumber 54 = .ok (.iaload, 1) := by decide +kernel
theorem dX8_acceptNumber_55 : decode cX8_acceptNumber 55 = .ok (.if_icmp .le 5, 3) := by decide +kernel
theorem dX8_acceptNumber_58 : decode cX8_acceptNumber 58 = .ok (.iconst 2, 1) := by decide +kernel
theorem dX8_acceptNumber_59 : decode cX8_acceptNumber 59 = .ok (.ireturn, 1) := by decide +kernel
theorem dX8_acceptNumber_60 : decode cX8_acceptNumber 60 = .ok (.aload_n 0, 1) := by decide +kernel
theorem dX8_acceptNumber_61 : decode cX8_acceptNumber 61 = .ok (.getfield 19, 3) := by decide +kernel
theorem dX8_acceptNumber_64 : decode cX8_acceptNumber 64 = .ok (.iload_n 1, 1) := by decide +kernel
theorem dX8_acceptNumber_65 : decode cX8_acceptNumber 65 = .ok (.aload_n 0, 1) := by decide +kernel
theorem dX8_acceptNumber_66 : decode cX8_acceptNumber 66 = .ok (.getfield 112, 3) := by decide +kernel
theorem dX8_acceptNumber_69 : decode cX8_acceptNumber 69 = .ok (.iastore, 1) := by decide +kernel
theorem dX8_acceptNumber_70 : decode cX8_acceptNumber 70 = .ok (.aload_n 0, 1) := by decide +kernel
theorem dX8_acceptNumber_71 : decode cX8_acceptNumber 71 = .ok (.dup, 1) := by decide +kernel
theorem dX8_acceptNumber_72 : decode cX8_acceptNumber 72 = .ok (.getfield 68, 3) := by decide +kernel
theorem dX8_acceptNumber_75 : decode cX8_acceptNumber 75 = .ok (.iconst 1, 1) := by decide +kernel
theorem dX8_acceptNumber_76 : decode cX8_acceptNumber 76 = .ok (.iadd, 1) := by decide +kernel
theorem dX8_acceptNumber_77 : decode cX8_acceptNumber 77 = .ok (.putfield 68, 3) := by decide +kernel
theorem dX8_acceptNumber_80 : decode cX8_acceptNumber 80 = .ok (.iconst 0, 1) := by decide +kernel
theorem dX8_acceptNumber_81 : decode cX8_acceptNumber 81 = .ok (.ireturn, 1) := by decide +kernel
theorem dX8_applyClause_0 : decode cX8_applyClause 0 = .ok (.aload_n 0, 1) := by decide +kernel
theorem dX8_applyClause_1 : decode cX8_applyClause 1 = .ok (.getfield 30, 3) := by decide +kernel
theorem dX8_applyClause_4 : decode cX8_applyClause 4 = .ok (.dup, 1) := by decide +kernel
theorem dX8_applyClause_5 : decode cX8_applyClause 5 = .ok (.getfield 194, 3) := by decide +kernel
theorem dX8_applyClause_8 : decode cX8_applyClause 8 = .ok (.iconst 1, 1) := by decide +kernel
theorem dX8_applyClause_9 : decode cX8_applyClause 9 = .ok (.iadd, 1) := by decide +kernel
theorem dX8_applyClause_10 : decode cX8_applyClause 10 = .ok (.putfield 194, 3) := by decide +kernel
theorem dX8_applyClause_13 : decode cX8_applyClause 13 = .ok (.aload_n 0, 1) := by decide +kernel
theorem dX8_applyClause_14 : decode cX8_applyClause 14 = .ok (.getfield 71, 3) := by decide +kernel
theorem dX8_applyClause_17 : decode cX8_applyClause 17 = .ok (.tableswitch 201 0 5 #[39, 71, 103, 124, 148, 168], 39) := by decide +kernel
theorem dX8_applyClause_56 : decode cX8_applyClause 56 = .ok (.aload_n 0, 1) := by decide +kernel
theorem dX8_applyClause_57 : decode cX8_applyClause 57 = .ok (.getfield 30, 3) := by decide +kernel
theorem dX8_applyClause_60 : decode cX8_applyClause 60 = .ok (.aload_n 0, 1) := by decide +kernel
theorem dX8_applyClause_61 : decode cX8_applyClause 61 = .ok (.getfield 169, 3) := by decide +kernel
theorem dX8_applyClause_64 : decode cX8_applyClause 64 = .ok (.aload_n 0, 1) := by decide +kernel
theorem dX8_applyClause_65 : decode cX8_applyClause 65 = .ok (.getfield 19, 3) := by decide +kernel
theorem dX8_applyClause_68 : decode cX8_applyClause 68 = .ok (.iconst 0, 1) := by decide +kernel
theorem dX8_applyClause_69 : decode cX8_applyClause 69 = .ok (.iaload, 1) := by decide +kernel
theorem dX8_applyClause_70 : decode cX8_applyClause 70 = .ok (.aload_n 0, 1) := by decide +kernel
theorem dX8_applyClause_71 : decode cX8_applyClause 71 = .ok (.getfield 19, 3) := by decide +kernel
theorem dX8_applyClause_74 : decode cX8_applyClause 74 = .ok (.iconst 1, 1) := by decide +kernel
theorem dX8_applyClause_75 : decode cX8_applyClause 75 = .ok (.iaload, 1) := by decide +kernel
theorem dX8_applyClause_76 : decode cX8_applyClause 76 = .ok (.aload_n 0, 1) := by decide +kernel
theorem dX8_applyClause_77 : decode cX8_applyClause 77 = .ok (.getfield 19, 3) := by decide +kernel
theorem dX8_applyClause_80 : decode cX8_applyClause 80 = .ok (.iconst 2, 1) := by decide +kernel
theorem dX8_applyClause_81 : decode cX8_applyClause 81 = .ok (.iaload, 1) := by decide +kernel
theorem dX8_applyClause_82 : decode cX8_applyClause 82 = .ok (.invokevirtual 197, 3) := by decide +kernel
theorem dX8_applyClause_85 : decode cX8_applyClause 85 = .ok (.goto 153, 3) := by decide +kernel
theorem dX8_applyClause_88 : decode cX8_applyClause 88 = .ok (.aload_n 0, 1) := by decide +kernel
theorem dX8_applyClause_89 : decode cX8_applyClause 89 = .ok (.getfield 30, 3) := by decide +kernel
theorem dX8_applyClause_92 : decode cX8_applyClause 92 = .ok (.aload_n 0, 1) := by decide +kernel
theorem dX8_applyClause_93 : decode cX8_applyClause 93 = .ok (.getfield 169, 3) := by decide +kernel
theorem dX8_applyClause_96 : decode cX8_applyClause 96 = .ok (.aload_n 0, 1) := by decide +kernel
theorem dX8_applyClause_97 : decode cX8_applyClause 97 = .ok (.getfield 19, 3) := by decide +kernel
theorem dX8_applyClause_100 : decode cX8_applyClause 100 = .ok (.iconst 0, 1) := by decide +kernel
theorem dX8_applyClause_101 : decode cX8_applyClause 101 = .ok (.iaload, 1) := by decide +kernel
theorem dX8_applyClause_102 : decode cX8_applyClause 102 = .ok (.aload_n 0, 1) := by decide +kernel
theorem dX8_applyClause_103 : decode cX8_applyClause 103 = .ok (.getfield 19, 3) := by decide +kernel
theorem dX8_applyClause_106 : decode cX8_applyClause 106 = .ok (.iconst 1, 1) := by decide +kernel
theorem dX8_applyClause_107 : decode cX8_applyClause 107 = .ok (.iaload, 1) := by decide +kernel
theorem dX8_applyClause_108 : decode cX8_applyClause 108 = .ok (.aload_n 0, 1) := by decide +kernel
theorem dX8_applyClause_109 : decode cX8_applyClause 109 = .ok (.getfield 19, 3) := by decide +kernel
theorem dX8_applyClause_112 : decode cX8_applyClause 112 = .ok (.iconst 2, 1) := by decide +kernel
theorem dX8_applyClause_113 : decode cX8_applyClause 113 = .ok (.iaload, 1) := by decide +kernel
theorem dX8_applyClause_114 : decode cX8_applyClause 114 = .ok (.invokevirtual 201, 3) := by decide +kernel
theorem dX8_applyClause_117 : decode cX8_applyClause 117 = .ok (.goto 121, 3) := by decide +kernel
theorem dX8_applyClause_120 : decode cX8_applyClause 120 = .ok (.aload_n 0, 1) := by decide +kernel
theorem dX8_applyClause_121 : decode cX8_applyClause 121 = .ok (.getfield 30, 3) := by decide +kernel
theorem dX8_applyClause_124 : decode cX8_applyClause 124 = .ok (.getfield 175, 3) := by decide +kernel
theorem dX8_applyClause_127 : decode cX8_applyClause 127 = .ok (.aload_n 0, 1) := by decide +kernel
theorem dX8_applyClause_128 : decode cX8_applyClause 128 = .ok (.getfield 172, 3) := by decide +kernel
theorem dX8_applyClause_131 : decode cX8_applyClause 131 = .ok (.aload_n 0, 1) := by decide +kernel
theorem dX8_applyClause_132 : decode cX8_applyClause 132 = .ok (.getfield 19, 3) := by decide +kernel
theorem dX8_applyClause_135 : decode cX8_applyClause 135 = .ok (.iconst 0, 1) := by decide +kernel
theorem dX8_applyClause_136 : decode cX8_applyClause 136 = .ok (.iaload, 1) := by decide +kernel
theorem dX8_applyClause_137 : decode cX8_applyClause 137 = .ok (.iastore, 1) := by decide +kernel
theorem dX8_applyClause_138 : decode cX8_applyClause 138 = .ok (.goto 100, 3) := by decide +kernel
theorem dX8_applyClause_141 : decode cX8_applyClause 141 = .ok (.aload_n 0, 1) := by decide +kernel
theorem dX8_applyClause_142 : decode cX8_applyClause 142 = .ok (.getfield 30, 3) := by decide +kernel
theorem dX8_applyClause_145 : decode cX8_applyClause 145 = .ok (.aload_n 0, 1) := by decide +kernel
theorem dX8_applyClause_146 : decode cX8_applyClause 146 = .ok (.getfield 172, 3) := by decide +kernel
theorem dX8_applyClause_149 : decode cX8_applyClause 149 = .ok (.aload_n 0, 1) := by decide +kernel
theorem dX8_applyClause_150 : decode cX8_applyClause 150 = .ok (.getfield 178, 3) := by decide +kernel
theorem dX8_applyClause_153 : decode cX8_applyClause 153 = .ok (.aload_n 0, 1) := by decide +kernel
theorem dX8_applyClause_154 : decode cX8_applyClause 154 = .ok (.getfield 19, 3) := by decide +kernel
theorem dX8_applyClause_157 : decode cX8_applyClause 157 = .ok (.iconst 0, 1) := by decide +kernel
theorem dX8_applyClause_158 : decode cX8_applyClause 158 = .ok (.iaload, 1) := by decide +kernel
theorem dX8_applyClause_159 : decode cX8_applyClause 159 = .ok (.invokevirtual 204, 3) := by decide +kernel
theorem dX8_applyClause_162 : decode cX8_applyClause 162 = .ok (.goto 76, 3) := by decide +kernel
theorem dX8_applyClause_165 : decode cX8_applyClause 165 = .ok (.aload_n 0, 1) := by decide +kernel
theorem dX8_applyClause_166 : decode cX8_applyClause 166 = .ok (.getfield 30, 3) := by decide +kernel
theorem dX8_applyClause_169 : decode cX8_applyClause 169 = .ok (.aload_n 0, 1) := by decide +kernel
theorem dX8_applyClause_170 : decode cX8_applyClause 170 = .ok (.getfield 169, 3) := by decide +kernel
theorem dX8_applyClause_173 : decode cX8_applyClause 173 = .ok (.aload_n 0, 1) := by decide +kernel
theorem dX8_applyClause_174 : decode cX8_applyClause 174 = .ok (.getfield 19, 3) := by decide +kernel
theorem dX8_applyClause_177 : decode cX8_applyClause 177 = .ok (.iconst 0, 1) := by decide +kernel
theorem dX8_applyClause_178 : decode cX8_applyClause 178 = .ok (.iaload, 1) := by decide +kernel
theorem dX8_applyClause_179 : decode cX8_applyClause 179 = .ok (.invokevirtual 208, 3) := by decide +kernel
theorem dX8_applyClause_182 : decode cX8_applyClause 182 = .ok (.goto 56, 3) := by decide +kernel
theorem dX8_applyClause_185 : decode cX8_applyClause 185 = .ok (.aload_n 0, 1) := by decide +kernel
theorem dX8_applyClause_186 : decode cX8_applyClause 186 = .ok (.getfield 30, 3) := by decide +kernel
theorem dX8_applyClause_189 : decode cX8_applyClause 189 = .ok (.bipush 12, 2) := by decide +kernel
theorem dX8_applyClause_191 : decode cX8_applyClause 191 = .ok (.aload_n 0, 1) := by decide +kernel
theorem dX8_applyClause_192 : decode cX8_applyClause 192 = .ok (.getfield 19, 3) := by decide +kernel
theorem dX8_applyClause_195 : decode cX8_applyClause 195 = .ok (.iconst 0, 1) := by decide +kernel
theorem dX8_applyClause_196 : decode cX8_applyClause 196 = .ok (.iaload, 1) := by decide +kernel
theorem dX8_applyClause_197 : decode cX8_applyClause 197 = .ok (.invokevirtual 212, 3) := by decide +kernel
theorem dX8_applyClause_200 : decode cX8_applyClause 200 = .ok (.aload_n 0, 1) := by decide +kernel
theorem dX8_applyClause_201 : decode cX8_applyClause 201 = .ok (.getfield 30, 3) := by decide +kernel
theorem dX8_applyClause_204 : decode cX8_applyClause 204 = .ok (.bipush 13, 2) := by decide +kernel
theorem dX8_applyClause_206 : decode cX8_applyClause 206 = .ok (.aload_n 0, 1) := by decide +kernel
theorem dX8_applyClause_207 : decode cX8_applyClause 207 = .ok (.getfield 19, 3) := by decide +kernel
theorem dX8_applyClause_210 : decode cX8_applyClause 210 = .ok (.iconst 1, 1) := by decide +kernel
theorem dX8_applyClause_211 : decode cX8_applyClause 211 = .ok (.iaload, 1) := by decide +kernel
theorem dX8_applyClause_212 : decode cX8_applyClause 212 = .ok (.invokevirtual 212, 3) := by decide +kernel
theorem dX8_applyClause_215 : decode cX8_applyClause 215 = .ok (.goto 23, 3) := by decide +kernel
theorem dX8_applyClause_218 : decode cX8_applyClause 218 = .ok (.aload_n 0, 1) := by decide +kernel
theorem dX8_applyClause_219 : decode cX8_applyClause 219 = .ok (.getfield 30, 3) := by decide +kernel
theorem dX8_applyClause_222 : decode cX8_applyClause 222 = .ok (.aload_n 0, 1) := by decide +kernel
theorem dX8_applyClause_223 : decode cX8_applyClause 223 = .ok (.getfield 71, 3) := by decide +kernel
theorem dX8_applyClause_226 : decode cX8_applyClause 226 = .ok (.invokestatic 134, 3) := by decide +kernel
theorem dX8_applyClause_229 : decode cX8_applyClause 229 = .ok (.aload_n 0, 1) := by decide +kernel
theorem dX8_applyClause_230 : decode cX8_applyClause 230 = .ok (.getfield 19, 3) := by decide +kernel
theorem dX8_applyClause_233 : decode cX8_applyClause 233 = .ok (.iconst 0, 1) := by decide +kernel
theorem dX8_applyClause_234 : decode cX8_applyClause 234 = .ok (.iaload, 1) := by decide +kernel
theorem dX8_applyClause_235 : decode cX8_applyClause 235 = .ok (.invokevirtual 212, 3) := by decide +kernel
theorem dX8_applyClause_238 : decode cX8_applyClause 238 = .ok (.return_, 1) := by decide +kernel
theorem dX9_init_0 : decode cX9_init 0 = .ok (.aload_n 0, 1) := by decide +kernel
theorem dX9_init_1 : decode cX9_init 1 = .ok (.invokespecial 3, 3) := by decide +kernel
theorem dX9_init_4 : decode cX9_init 4 = .ok (.aload_n 0, 1) := by decide +kernel
theorem dX9_init_5 : decode cX9_init 5 = .ok (.bipush 16, 2) := by decide +kernel
theorem dX9_init_7 : decode cX9_init 7 = .ok (.newarray .int, 2) := by decide +kernel
theorem dX9_init_9 : decode cX9_init 9 = .ok (.putfield 11, 3) := by decide +kernel
theorem dX9_init_12 : decode cX9_init 12 = .ok (.aload_n 0, 1) := by decide +kernel
theorem dX9_init_13 : decode cX9_init 13 = .ok (.bipush 16, 2) := by decide +kernel
theorem dX9_init_15 : decode cX9_init 15 = .ok (.newarray .int, 2) := by decide +kernel
theorem dX9_init_17 : decode cX9_init 17 = .ok (.putfield 15, 3) := by decide +kernel
theorem dX9_init_20 : decode cX9_init 20 = .ok (.aload_n 0, 1) := by decide +kernel
theorem dX9_init_21 : decode cX9_init 21 = .ok (.bipush 16, 2) := by decide +kernel
theorem dX9_init_23 : decode cX9_init 23 = .ok (.newarray .int, 2) := by decide +kernel
theorem dX9_init_25 : decode cX9_init 25 = .ok (.putfield 18, 3) := by decide +kernel
theorem dX9_init_28 : decode cX9_init 28 = .ok (.aload_n 0, 1) := by decide +kernel
theorem dX9_init_29 : decode cX9_init 29 = .ok (.bipush 16, 2) := by decide +kernel
theorem dX9_init_31 : decode cX9_init 31 = .ok (.newarray .int, 2) := by decide +kernel
theorem dX9_init_33 : decode cX9_init 33 = .ok (.putfield 21, 3) := by decide +kernel
theorem dX9_init_36 : decode cX9_init 36 = .ok (.aload_n 0, 1) := by decide +kernel
theorem dX9_init_37 : decode cX9_init 37 = .ok (.bipush 16, 2) := by decide +kernel
theorem dX9_init_39 : decode cX9_init 39 = .ok (.newarray .int, 2) := by decide +kernel
theorem dX9_init_41 : decode cX9_init 41 = .ok (.putfield 24, 3) := by decide +kernel
theorem dX9_init_44 : decode cX9_init 44 = .ok (.aload_n 0, 1) := by decide +kernel
theorem dX9_init_45 : decode cX9_init 45 = .ok (.bipush 20, 2) := by decide +kernel
theorem dX9_init_47 : decode cX9_init 47 = .ok (.newarray .int, 2) := by decide +kernel
theorem dX9_init_49 : decode cX9_init 49 = .ok (.putfield 27, 3) := by decide +kernel
theorem dX9_init_52 : decode cX9_init 52 = .ok (.aload_n 0, 1) := by decide +kernel
theorem dX9_init_53 : decode cX9_init 53 = .ok (.bipush 20, 2) := by decide +kernel
theorem dX9_init_55 : decode cX9_init 55 = .ok (.newarray .int, 2) := by decide +kernel
theorem dX9_init_57 : decode cX9_init 57 = .ok (.putfield 30, 3) := by decide +kernel
theorem dX9_init_60 : decode cX9_init 60 = .ok (.aload_n 0, 1) := by decide +kernel
theorem dX9_init_61 : decode cX9_init 61 = .ok (.bipush 20, 2) := by decide +kernel
theorem dX9_init_63 : decode cX9_init 63 = .ok (.newarray .int, 2) := by decide +kernel
theorem dX9_init_65 : decode cX9_init 65 = .ok (.putfield 33, 3) := by decide +kernel
theorem dX9_init_68 : decode cX9_init 68 = .ok (.return_, 1) := by decide +kernel
theorem dX9_clear_0 : decode cX9_clear 0 = .ok (.aload_n 0, 1) := by decide +kernel
theorem dX9_clear_1 : decode cX9_clear 1 = .ok (.iconst 0, 1) := by decide +kernel
theorem dX9_clear_2 : decode cX9_clear 2 = .ok (.putfield 36, 3) := by decide +kernel
theorem dX9_clear_5 : decode cX9_clear 5 = .ok (.aload_n 0, 1) := by decide +kernel
theorem dX9_clear_6 : decode cX9_clear 6 = .ok (.iconst 0, 1) := by decide +kernel
theorem dX9_clear_7 : decode cX9_clear 7 = .ok (.putfield 40, 3) := by decide +kernel
theorem dX9_clear_10 : decode cX9_clear 10 = .ok (.aload_n 0, 1) := by decide +kernel
theorem dX9_clear_11 : decode cX9_clear 11 = .ok (.iconst 0, 1) := by decide +kernel
theorem dX9_clear_12 : decode cX9_clear 12 = .ok (.putfield 43, 3) := by decide +kernel
theorem dX9_clear_15 : decode cX9_clear 15 = .ok (.aload_n 0, 1) := by decide +kernel
theorem dX9_clear_16 : decode cX9_clear 16 = .ok (.iconst 0, 1) := by decide +kernel
theorem dX9_clear_17 : decode cX9_clear 17 = .ok (.putfield 46, 3) := by decide +kernel
theorem dX9_clear_20 : decode cX9_clear 20 = .ok (.return_, 1) := by decide +kernel
theorem dX9_mayTellAt_0 : decode cX9_mayTellAt 0 = .ok (.iload_n 1, 1) := by decide +kernel
theorem dX9_mayTellAt_1 : decode cX9_mayTellAt 1 = .ok (.invokestatic 49, 3) := by decide +kernel
theorem dX9_mayTellAt_4 : decode cX9_mayTellAt 4 = .ok (.ifCond .eq 15, 3) := by decide +kernel
theorem dX9_mayTellAt_7 : decode cX9_mayTellAt 7 = .ok (.iload_n 1, 1) := by decide +kernel
theorem dX9_mayTellAt_8 : decode cX9_mayTellAt 8 = .ok (.aload_n 0, 1) := by decide +kernel
theorem dX9_mayTellAt_9 : decode cX9_mayTellAt 9 = .ok (.getfield 43, 3) := by decide +kernel
theorem dX9_mayTellAt_12 : decode cX9_mayTellAt 12 = .ok (.if_icmp .lt 7, 3) := by decide +kernel
theorem dX9_mayTellAt_15 : decode cX9_mayTellAt 15 = .ok (.iconst 1, 1) := by decide +kernel
theorem dX9_mayTellAt_16 : decode cX9_mayTellAt 16 = .ok (.goto 4, 3) := by decide +kernel
theorem dX9_mayTellAt_19 : decode cX9_mayTellAt 19 = .ok (.iconst 0, 1) := by decide +kernel
theorem dX9_mayTellAt_20 : decode cX9_mayTellAt 20 = .ok (.ireturn, 1) := by decide +kernel
theorem dX9_add_0 : decode cX9_add 0 = .ok (.aload_n 0, 1) := by decide +kernel
theorem dX9_add_1 : decode cX9_add 1 = .ok (.getfield 36, 3) := by decide +kernel
theorem dX9_add_4 : decode cX9_add 4 = .ok (.bipush 16, 2) := by decide +kernel
theorem dX9_add_6 : decode cX9_add 6 = .ok (.if_icmp .lt 6, 3) := by decide +kernel
theorem dX9_add_9 : decode cX9_add 9 = .ok (.bipush (-3), 2) := by decide +kernel
theorem dX9_add_11 : decode cX9_add 11 = .ok (.ireturn, 1) := by decide +kernel
theorem dX9_add_12 : decode cX9_add 12 = .ok (.aload_n 0, 1) := by decide +kernel
theorem dX9_add_13 : decode cX9_add 13 = .ok (.getfield 11, 3) := by decide +kernel
theorem dX9_add_16 : decode cX9_add 16 = .ok (.aload_n 0, 1) := by decide +kernel
theorem dX9_add_17 : decode cX9_add 17 = .ok (.getfield 36, 3) := by decide +kernel
theorem dX9_add_20 : decode cX9_add 20 = .ok (.iload_n 1, 1) := by decide +kernel
theorem dX9_add_21 : decode cX9_add 21 = .ok (.iastore, 1) := by decide +kernel
theorem dX9_add_22 : decode cX9_add 22 = .ok (.aload_n 0, 1) := by decide +kernel
theorem dX9_add_23 : decode cX9_add 23 = .ok (.getfield 15, 3) := by decide +kernel
theorem dX9_add_26 : decode cX9_add 26 = .ok (.aload_n 0, 1) := by decide +kernel
theorem dX9_add_27 : decode cX9_add 27 = .ok (.getfield 36, 3) := by decide +kernel
theorem dX9_add_30 : decode cX9_add 30 = .ok (.iload_n 2, 1) := by decide +kernel
theorem dX9_add_31 : decode cX9_add 31 = .ok (.iastore, 1) := by decide +kernel
theorem dX9_add_32 : decode cX9_add 32 = .ok (.aload_n 0, 1) := by decide +kernel
theorem dX9_add_33 : decode cX9_add 33 = .ok (.getfield 18, 3) := by decide +kernel
theorem dX9_add_36 : decode cX9_add 36 = .ok (.aload_n 0, 1) := by decide +kernel
theorem dX9_add_37 : decode cX9_add 37 = .ok (.getfield 36, 3) := by decide +kernel
theorem dX9_add_40 : decode cX9_add 40 = .ok (.iload_n 3, 1) := by decide +kernel
theorem dX9_add_41 : decode cX9_add 41 = .ok (.iastore, 1) := by decide +kernel
theorem dX9_add_42 : decode cX9_add 42 = .ok (.aload_n 0, 1) := by decide +kernel
theorem dX9_add_43 : decode cX9_add 43 = .ok (.getfield 21, 3) := by decide +kernel
theorem dX9_add_46 : decode cX9_add 46 = .ok (.aload_n 0, 1) := by decide +kernel
theorem dX9_add_47 : decode cX9_add 47 = .ok (.getfield 36, 3) := by decide +kernel
theorem dX9_add_50 : decode cX9_add 50 = .ok (.iload 4, 2) := by decide +kernel
theorem dX9_add_52 : decode cX9_add 52 = .ok (.iastore, 1) := by decide +kernel
theorem dX9_add_53 : decode cX9_add 53 = .ok (.aload_n 0, 1) := by decide +kernel
theorem dX9_add_54 : decode cX9_add 54 = .ok (.getfield 24, 3) := by decide +kernel
theorem dX9_add_57 : decode cX9_add 57 = .ok (.aload_n 0, 1) := by decide +kernel
theorem dX9_add_58 : decode cX9_add 58 = .ok (.getfield 36, 3) := by decide +kernel
theorem dX9_add_61 : decode cX9_add 61 = .ok (.iconst 0, 1) := by decide +kernel
theorem dX9_add_62 : decode cX9_add 62 = .ok (.iastore, 1) := by decide +kernel
theorem dX9_add_63 : decode cX9_add 63 = .ok (.aload_n 0, 1) := by decide +kernel
theorem dX9_add_64 : decode cX9_add 64 = .ok (.iload_n 1, 1) := by decide +kernel
theorem dX9_add_65 : decode cX9_add 65 = .ok (.putfield 43, 3) := by decide +kernel
theorem dX9_add_68 : decode cX9_add 68 = .ok (.aload_n 0, 1) := by decide +kernel
theorem dX9_add_69 : decode cX9_add 69 = .ok (.dup, 1) := by decide +kernel
theorem dX9_add_70 : decode cX9_add 70 = .ok (.getfield 36, 3) := by decide +kernel
theorem dX9_add_73 : decode cX9_add 73 = .ok (.iconst 1, 1) := by decide +kernel
theorem dX9_add_74 : decode cX9_add 74 = .ok (.iadd, 1) := by decide +kernel
theorem dX9_add_75 : decode cX9_add 75 = .ok (.putfield 36, 3) := by decide +kernel
theorem dX9_add_78 : decode cX9_add 78 = .ok (.aload_n 0, 1) := by decide +kernel
theorem dX9_add_79 : decode cX9_add 79 = .ok (.getfield 36, 3) := by decide +kernel
theorem dX9_add_82 : decode cX9_add 82 = .ok (.iconst 1, 1) := by decide +kernel
theorem dX9_add_83 : decode cX9_add 83 = .ok (.isub, 1) := by decide +kernel
theorem dX9_add_84 : decode cX9_add 84 = .ok (.ireturn, 1) := by decide +kernel
theorem dX9_correct_0 : decode cX9_correct 0 = .ok (.aload_n 0, 1) := by decide +kernel
theorem dX9_correct_1 : decode cX9_correct 1 = .ok (.getfield 40, 3) := by decide +kernel
theorem dX9_correct_4 : decode cX9_correct 4 = .ok (.bipush 20, 2) := by decide +kernel
theorem dX9_correct_6 : decode cX9_correct 6 = .ok (.if_icmp .lt 6, 3) := by decide +kernel
theorem dX9_correct_9 : decode cX9_correct 9 = .ok (.bipush (-3), 2) := by decide +kernel
theorem dX9_correct_11 : decode cX9_correct 11 = .ok (.ireturn, 1) := by decide +kernel
theorem dX9_correct_12 : decode cX9_correct 12 = .ok (.aload_n 0, 1) := by decide +kernel
theorem dX9_correct_13 : decode cX9_correct 13 = .ok (.getfield 27, 3) := by decide +kernel
theorem dX9_correct_16 : decode cX9_correct 16 = .ok (.aload_n 0, 1) := by decide +kernel
theorem dX9_correct_17 : decode cX9_correct 17 = .ok (.getfield 40, 3) := by decide +kernel
theorem dX9_correct_20 : decode cX9_correct 20 = .ok (.iload_n 1, 1) := by decide +kernel
theorem dX9_correct_21 : decode cX9_correct 21 = .ok (.iastore, 1) := by decide +kernel
theorem dX9_correct_22 : decode cX9_correct 22 = .ok (.aload_n 0, 1) := by decide +kernel
theorem dX9_correct_23 : decode cX9_correct 23 = .ok (.getfield 30, 3) := by decide +kernel
theorem dX9_correct_26 : decode cX9_correct 26 = .ok (.aload_n 0, 1) := by decide +kernel
theorem dX9_correct_27 : decode cX9_correct 27 = .ok (.getfield 40, 3) := by decide +kernel
theorem dX9_correct_30 : decode cX9_correct 30 = .ok (.iload_n 2, 1) := by decide +kernel
theorem dX9_correct_31 : decode cX9_correct 31 = .ok (.iastore, 1) := by decide +kernel
theorem dX9_correct_32 : decode cX9_correct 32 = .ok (.aload_n 0, 1) := by decide +kernel
theorem dX9_correct_33 : decode cX9_correct 33 = .ok (.getfield 33, 3) := by decide +kernel
theorem dX9_correct_36 : decode cX9_correct 36 = .ok (.aload_n 0, 1) := by decide +kernel
theorem dX9_correct_37 : decode cX9_correct 37 = .ok (.getfield 40, 3) := by decide +kernel
theorem dX9_correct_40 : decode cX9_correct 40 = .ok (.iload_n 3, 1) := by decide +kernel
theorem dX9_correct_41 : decode cX9_correct 41 = .ok (.iastore, 1) := by decide +kernel
theorem dX9_correct_42 : decode cX9_correct 42 = .ok (.aload_n 0, 1) := by decide +kernel
theorem dX9_correct_43 : decode cX9_correct 43 = .ok (.dup, 1) := by decide +kernel
theorem dX9_correct_44 : decode cX9_correct 44 = .ok (.getfield 40, 3) := by decide +kernel
theorem dX9_correct_47 : decode cX9_correct 47 = .ok (.iconst 1, 1) := by decide +kernel
theorem dX9_correct_48 : decode cX9_correct 48 = .ok (.iadd, 1) := by decide +kernel
theorem dX9_correct_49 : decode cX9_correct 49 = .ok (.putfield 40, 3) := by decide +kernel
theorem dX9_correct_52 : decode cX9_correct 52 = .ok (.aload_n 0, 1) := by decide +kernel
theorem dX9_correct_53 : decode cX9_correct 53 = .ok (.iload_n 1, 1) := by decide +kernel
theorem dX9_correct_54 : decode cX9_correct 54 = .ok (.putfield 43, 3) := by decide +kernel
theorem dX9_correct_57 : decode cX9_correct 57 = .ok (.aload_n 0, 1) := by decide +kernel
theorem dX9_correct_58 : decode cX9_correct 58 = .ok (.getfield 24, 3) := by decide +kernel
theorem dX9_correct_61 : decode cX9_correct 61 = .ok (.iload_n 2, 1) := by decide +kernel
theorem dX9_correct_62 : decode cX9_correct 62 = .ok (.dup2, 1) := by decide +kernel
theorem dX9_correct_63 : decode cX9_correct 63 = .ok (.iaload, 1) := by decide +kernel
theorem dX9_correct_64 : decode cX9_correct 64 = .ok (.iconst 1, 1) := by decide +kernel
theorem dX9_correct_65 : decode cX9_correct 65 = .ok (.iadd, 1) := by decide +kernel
theorem dX9_correct_66 : decode cX9_correct 66 = .ok (.iastore, 1) := by decide +kernel
theorem dX9_correct_67 : decode cX9_correct 67 = .ok (.aload_n 0, 1) := by decide +kernel
theorem dX9_correct_68 : decode cX9_correct 68 = .ok (.getfield 24, 3) := by decide +kernel
theorem dX9_correct_71 : decode cX9_correct 71 = .ok (.iload_n 2, 1) := by decide +kernel
theorem dX9_correct_72 : decode cX9_correct 72 = .ok (.iaload, 1) := by decide +kernel
theorem dX9_correct_73 : decode cX9_correct 73 = .ok (.ireturn, 1) := by decide +kernel
theorem dX9_feetKnown_0 : decode cX9_feetKnown 0 = .ok (.aload_n 0, 1) := by decide +kernel
theorem dX9_feetKnown_1 : decode cX9_feetKnown 1 = .ok (.getfield 15, 3) := by decide +kernel
theorem dX9_feetKnown_4 : decode cX9_feetKnown 4 = .ok (.iload_n 1, 1) := by decide +kernel
theorem dX9_feetKnown_5 : decode cX9_feetKnown 5 = .ok (.iaload, 1) := by decide +kernel
theorem dX9_feetKnown_6 : decode cX9_feetKnown 6 = .ok (.istore_n 3, 1) := by decide +kernel
theorem dX9_feetKnown_7 : decode cX9_feetKnown 7 = .ok (.iconst 0, 1) := by decide +kernel
theorem dX9_feetKnown_8 : decode cX9_feetKnown 8 = .ok (.istore 4, 2) := by decide +kernel
theorem dX9_feetKnown_10 : decode cX9_feetKnown 10 = .ok (.iload 4, 2) := by decide +kernel
theorem dX9_feetKnown_12 : decode cX9_feetKnown 12 = .ok (.aload_n 0, 1) := by decide +kernel
theorem dX9_feetKnown_13 : decode cX9_feetKnown 13 = .ok (.getfield 40, 3) := by decide +kernel
theorem dX9_feetKnown_16 : decode cX9_feetKnown 16 = .ok (.if_icmp .ge 39, 3) := by decide +kernel
theorem dX9_feetKnown_19 : decode cX9_feetKnown 19 = .ok (.aload_n 0, 1) := by decide +kernel
theorem dX9_feetKnown_20 : decode cX9_feetKnown 20 = .ok (.getfield 30, 3) := by decide +kernel
theorem dX9_feetKnown_23 : decode cX9_feetKnown 23 = .ok (.iload 4, 2) := by decide +kernel
theorem dX9_feetKnown_25 : decode cX9_feetKnown 25 = .ok (.iaload, 1) := by decide +kernel
theorem dX9_feetKnown_26 : decode cX9_feetKnown 26 = .ok (.iload_n 1, 1) := by decide +kernel
theorem dX9_feetKnown_27 : decode cX9_feetKnown 27 = .ok (.if_icmp .ne 22, 3) := by decide +kernel
theorem dX9_feetKnown_30 : decode cX9_feetKnown 30 = .ok (.aload_n 0, 1) := by decide +kernel
theorem dX9_feetKnown_31 : decode cX9_feetKnown 31 = .ok (.getfield 27, 3) := by decide +kernel
theorem dX9_feetKnown_34 : decode cX9_feetKnown 34 = .ok (.iload 4, 2) := by decide +kernel
theorem dX9_feetKnown_36 : decode cX9_feetKnown 36 = .ok (.iaload, 1) := by decide +kernel
theorem dX9_feetKnown_37 : decode cX9_feetKnown 37 = .ok (.iload_n 2, 1) := by decide +kernel
theorem dX9_feetKnown_38 : decode cX9_feetKnown 38 = .ok (.if_icmp .gt 11, 3) := by decide +kernel
theorem dX9_feetKnown_41 : decode cX9_feetKnown 41 = .ok (.aload_n 0, 1) := by decide +kernel
theorem dX9_feetKnown_42 : decode cX9_feetKnown 42 = .ok (.getfield 33, 3) := by decide +kernel
theorem dX9_feetKnown_45 : decode cX9_feetKnown 45 = .ok (.iload 4, 2) := by decide +kernel
theorem dX9_feetKnown_47 : decode cX9_feetKnown 47 = .ok (.iaload, 1) := by decide +kernel
theorem dX9_feetKnown_48 : decode cX9_feetKnown 48 = .ok (.istore_n 3, 1) := by decide +kernel
theorem dX9_feetKnown_49 : decode cX9_feetKnown 49 = .ok (.iinc 4 1, 3) := by decide +kernel
theorem dX9_feetKnown_52 : decode cX9_feetKnown 52 = .ok (.goto (-42), 3) := by decide +kernel
theorem dX9_feetKnown_55 : decode cX9_feetKnown 55 = .ok (.iload_n 3, 1) := by decide +kernel
theorem dX9_feetKnown_56 : decode cX9_feetKnown 56 = .ok (.ireturn, 1) := by decide +kernel
theorem dX9_along_0 : decode cX9_along 0 = .ok (.aload_n 0, 1) := by decide +kernel
theorem dX9_along_1 : decode cX9_along 1 = .ok (.iload_n 1, 1) := by decide +kernel
theorem dX9_along_2 : decode cX9_along 2 = .ok (.getstatic 53, 3) := by decide +kernel
theorem dX9_along_5 : decode cX9_along 5 = .ok (.invokevirtual 56, 3) := by decide +kernel
theorem dX9_along_8 : decode cX9_along 8 = .ok (.ireturn, 1) := by decide +kernel
theorem dX9_toward_0 : decode cX9_toward 0 = .ok (.aload_n 0, 1) := by decide +kernel
theorem dX9_toward_1 : decode cX9_toward 1 = .ok (.iload_n 1, 1) := by decide +kernel
theorem dX9_toward_2 : decode cX9_toward 2 = .ok (.getstatic 60, 3) := by decide +kernel
theorem dX9_toward_5 : decode cX9_toward 5 = .ok (.invokevirtual 56, 3) := by decide +kernel
theorem dX9_toward_8 : decode cX9_toward 8 = .ok (.ireturn, 1) := by decide +kernel
theorem dX9_sumOf_0 : decode cX9_sumOf 0 = .ok (.iconst 0, 1) := by decide +kernel
theorem dX9_sumOf_1 : decode cX9_sumOf 1 = .ok (.istore_n 3, 1) := by decide +kernel
theorem dX9_sumOf_2 : decode cX9_sumOf 2 = .ok (.iconst 0, 1) := by decide +kernel
theorem dX9_sumOf_3 : decode cX9_sumOf 3 = .ok (.istore 4, 2) := by decide +kernel
theorem dX9_sumOf_5 : decode cX9_sumOf 5 = .ok (.iload 4, 2) := by decide +kernel
theorem dX9_sumOf_7 : decode cX9_sumOf 7 = .ok (.aload_n 0, 1) := by decide +kernel
theorem dX9_sumOf_8 : decode cX9_sumOf 8 = .ok (.getfield 36, 3) := by decide +kernel
theorem dX9_sumOf_11 : decode cX9_sumOf 11 = .ok (.if_icmp .ge 40, 3) := by decide +kernel
theorem dX9_sumOf_14 : decode cX9_sumOf 14 = .ok (.aload_n 0, 1) := by decide +kernel
theorem dX9_sumOf_15 : decode cX9_sumOf 15 = .ok (.getfield 11, 3) := by decide +kernel
theorem dX9_sumOf_18 : decode cX9_sumOf 18 = .ok (.iload 4, 2) := by decide +kernel
theorem dX9_sumOf_20 : decode cX9_sumOf 20 = .ok (.iaload, 1) := by decide +kernel
theorem dX9_sumOf_21 : decode cX9_sumOf 21 = .ok (.iload_n 1, 1) := by decide +kernel
theorem dX9_sumOf_22 : decode cX9_sumOf 22 = .ok (.if_icmp .gt 23, 3) := by decide +kernel
theorem dX9_sumOf_25 : decode cX9_sumOf 25 = .ok (.iload_n 3, 1) := by decide +kernel
theorem dX9_sumOf_26 : decode cX9_sumOf 26 = .ok (.aload_n 0, 1) := by decide +kernel
theorem dX9_sumOf_27 : decode cX9_sumOf 27 = .ok (.iload 4, 2) := by decide +kernel
theorem dX9_sumOf_29 : decode cX9_sumOf 29 = .ok (.iload_n 1, 1) := by decide +kernel
theorem dX9_sumOf_30 : decode cX9_sumOf 30 = .ok (.invokevirtual 63, 3) := by decide +kernel
theorem dX9_sumOf_33 : decode cX9_sumOf 33 = .ok (.aload_n 2, 1) := by decide +kernel
theorem dX9_sumOf_34 : decode cX9_sumOf 34 = .ok (.aload_n 0, 1) := by decide +kernel
theorem dX9_sumOf_35 : decode cX9_sumOf 35 = .ok (.getfield 18, 3) := by decide +kernel
theorem dX9_sumOf_38 : decode cX9_sumOf 38 = .ok (.iload 4, 2) := by decide +kernel
theorem dX9_sumOf_40 : decode cX9_sumOf 40 = .ok (.iaload, 1) := by decide +kernel
theorem dX9_sumOf_41 : decode cX9_sumOf 41 = .ok (.iaload, 1) := by decide +kernel
theorem dX9_sumOf_42 : decode cX9_sumOf 42 = .ok (.imul, 1) := by decide +kernel
theorem dX9_sumOf_43 : decode cX9_sumOf 43 = .ok (.iadd, 1) := by decide +kernel
theorem dX9_sumOf_44 : decode cX9_sumOf 44 = .ok (.istore_n 3, 1) := by decide +kernel
theorem dX9_sumOf_45 : decode cX9_sumOf 45 = .ok (.iinc 4 1, 3) := by decide +kernel
theorem dX9_sumOf_48 : decode cX9_sumOf 48 = .ok (.goto (-43), 3) := by decide +kernel
theorem dX9_sumOf_51 : decode cX9_sumOf 51 = .ok (.iload_n 3, 1) := by decide +kernel
theorem dX9_sumOf_52 : decode cX9_sumOf 52 = .ok (.ireturn, 1) := by decide +kernel
theorem dX9_offBy_0 : decode cX9_offBy 0 = .ok (.iconst 0, 1) := by decide +kernel
theorem dX9_offBy_1 : decode cX9_offBy 1 = .ok (.istore_n 2, 1) := by decide +kernel
theorem dX9_offBy_2 : decode cX9_offBy 2 = .ok (.iconst 0, 1) := by decide +kernel
theorem dX9_offBy_3 : decode cX9_offBy 3 = .ok (.istore_n 3, 1) := by decide +kernel
theorem dX9_offBy_4 : decode cX9_offBy 4 = .ok (.iload_n 3, 1) := by decide +kernel
theorem dX9_offBy_5 : decode cX9_offBy 5 = .ok (.aload_n 0, 1) := by decide +kernel
theorem dX9_offBy_6 : decode cX9_offBy 6 = .ok (.getfield 36, 3) := by decide +kernel
theorem dX9_offBy_9 : decode cX9_offBy 9 = .ok (.if_icmp .ge 38, 3) := by decide +kernel
theorem dX9_offBy_12 : decode cX9_offBy 12 = .ok (.aload_n 0, 1) := by decide +kernel
theorem dX9_offBy_13 : decode cX9_offBy 13 = .ok (.getfield 11, 3) := by decide +kernel
theorem dX9_offBy_16 : decode cX9_offBy 16 = .ok (.iload_n 3, 1) := by decide +kernel
theorem dX9_offBy_17 : decode cX9_offBy 17 = .ok (.iaload, 1) := by decide +kernel
theorem dX9_offBy_18 : decode cX9_offBy 18 = .ok (.iload_n 1, 1) := by decide +kernel
theorem dX9_offBy_19 : decode cX9_offBy 19 = .ok (.if_icmp .gt 22, 3) := by decide +kernel
theorem dX9_offBy_22 : decode cX9_offBy 22 = .ok (.iload_n 2, 1) := by decide +kernel
theorem dX9_offBy_23 : decode cX9_offBy 23 = .ok (.bipush 10, 2) := by decide +kernel
theorem dX9_offBy_25 : decode cX9_offBy 25 = .ok (.aload_n 0, 1) := by decide +kernel
theorem dX9_offBy_26 : decode cX9_offBy 26 = .ok (.getfield 21, 3) := by decide +kernel
theorem dX9_offBy_29 : decode cX9_offBy 29 = .ok (.iload_n 3, 1) := by decide +kernel
theorem dX9_offBy_30 : decode cX9_offBy 30 = .ok (.iaload, 1) := by decide +kernel
theorem dX9_offBy_31 : decode cX9_offBy 31 = .ok (.imul, 1) := by decide +kernel
theorem dX9_offBy_32 : decode cX9_offBy 32 = .ok (.aload_n 0, 1) := by decide +kernel
theorem dX9_offBy_33 : decode cX9_offBy 33 = .ok (.getfield 46, 3) := by decide +kernel
theorem dX9_offBy_36 : decode cX9_offBy 36 = .ok (.iload_n 3, 1) := by decide +kernel
theorem dX9_offBy_37 : decode cX9_offBy 37 = .ok (.imul, 1) := by decide +kernel
theorem dX9_offBy_38 : decode cX9_offBy 38 = .ok (.iadd, 1) := by decide +kernel
theorem dX9_offBy_39 : decode cX9_offBy 39 = .ok (.iadd, 1) := by decide +kernel
theorem dX9_offBy_40 : decode cX9_offBy 40 = .ok (.istore_n 2, 1) := by decide +kernel
theorem dX9_offBy_41 : decode cX9_offBy 41 = .ok (.iinc 3 1, 3) := by decide +kernel
theorem dX9_offBy_44 : decode cX9_offBy 44 = .ok (.goto (-40), 3) := by decide +kernel
theorem dX9_offBy_47 : decode cX9_offBy 47 = .ok (.iload_n 2, 1) := by decide +kernel
theorem dX9_offBy_48 : decode cX9_offBy 48 = .ok (.ireturn, 1) := by decide +kernel
theorem dX9_comesUp_0 : decode cX9_comesUp 0 = .ok (.aload_n 0, 1) := by decide +kernel
theorem dX9_comesUp_1 : decode cX9_comesUp 1 = .ok (.iload_n 3, 1) := by decide +kernel
theorem dX9_comesUp_2 : decode cX9_comesUp 2 = .ok (.invokevirtual 67, 3) := by decide +kernel
theorem dX9_comesUp_5 : decode cX9_comesUp 5 = .ok (.bipush 10, 2) := by decide +kernel
theorem dX9_comesUp_7 : decode cX9_comesUp 7 = .ok (.aload_n 1, 1) := by decide +kernel
theorem dX9_comesUp_8 : decode cX9_comesUp 8 = .ok (.getfield 71, 3) := by decide +kernel
theorem dX9_comesUp_11 : decode cX9_comesUp 11 = .ok (.iload_n 2, 1) := by decide +kernel
theorem dX9_comesUp_12 : decode cX9_comesUp 12 = .ok (.iaload, 1) := by decide +kernel
theorem dX9_comesUp_13 : decode cX9_comesUp 13 = .ok (.imul, 1) := by decide +kernel
theorem dX9_comesUp_14 : decode cX9_comesUp 14 = .ok (.isub, 1) := by decide +kernel
theorem dX9_comesUp_15 : decode cX9_comesUp 15 = .ok (.istore 4, 2) := by decide +kernel
theorem dX9_comesUp_17 : decode cX9_comesUp 17 = .ok (.aload_n 0, 1) := by decide +kernel
theorem dX9_comesUp_18 : decode cX9_comesUp 18 = .ok (.iload_n 3, 1) := by decide +kernel
theorem dX9_comesUp_19 : decode cX9_comesUp 19 = .ok (.invokevirtual 76, 3) := by decide +kernel
theorem dX9_comesUp_22 : decode cX9_comesUp 22 = .ok (.istore 5, 2) := by decide +kernel
theorem dX9_comesUp_24 : decode cX9_comesUp 24 = .ok (.bipush 10, 2) := by decide +kernel
theorem dX9_comesUp_26 : decode cX9_comesUp 26 = .ok (.aload_n 1, 1) := by decide +kernel
theorem dX9_comesUp_27 : decode cX9_comesUp 27 = .ok (.iconst 4, 1) := by decide +kernel
theorem dX9_comesUp_28 : decode cX9_comesUp 28 = .ok (.invokevirtual 79, 3) := by decide +kernel
theorem dX9_comesUp_31 : decode cX9_comesUp 31 = .ok (.imul, 1) := by decide +kernel
theorem dX9_comesUp_32 : decode cX9_comesUp 32 = .ok (.istore 6, 2) := by decide +kernel
theorem dX9_comesUp_34 : decode cX9_comesUp 34 = .ok (.iload 4, 2) := by decide +kernel
theorem dX9_comesUp_36 : decode cX9_comesUp 36 = .ok (.iload 5, 2) := by decide +kernel
theorem dX9_comesUp_38 : decode cX9_comesUp 38 = .ok (.iadd, 1) := by decide +kernel
theorem dX9_comesUp_39 : decode cX9_comesUp 39 = .ok (.ifCond .gt 5, 3) := by decide +kernel
theorem dX9_comesUp_42 : decode cX9_comesUp 42 = .ok (.iconst 0, 1) := by decide +kernel
theorem dX9_comesUp_43 : decode cX9_comesUp 43 = .ok (.ireturn, 1) := by decide +kernel
theorem dX9_comesUp_44 : decode cX9_comesUp 44 = .ok (.iload 4, 2) := by decide +kernel
theorem dX9_comesUp_46 : decode cX9_comesUp 46 = .ok (.iload 5, 2) := by decide +kernel
theorem dX9_comesUp_48 : decode cX9_comesUp 48 = .ok (.isub, 1) := by decide +kernel
theorem dX9_comesUp_49 : decode cX9_comesUp 49 = .ok (.iload 6, 2) := by decide +kernel
theorem dX9_comesUp_51 : decode cX9_comesUp 51 = .ok (.if_icmp .lt 5, 3) := by decide +kernel
theorem dX9_comesUp_54 : decode cX9_comesUp 54 = .ok (.iconst 2, 1) := by decide +kernel
theorem dX9_comesUp_55 : decode cX9_comesUp 55 = .ok (.ireturn, 1) := by decide +kernel
theorem dX9_comesUp_56 : decode cX9_comesUp 56 = .ok (.iload 4, 2) := by decide +kernel
theorem dX9_comesUp_58 : decode cX9_comesUp 58 = .ok (.iload 5, 2) := by decide +kernel
theorem dX9_comesUp_60 : decode cX9_comesUp 60 = .ok (.isub, 1) := by decide +kernel
theorem dX9_comesUp_61 : decode cX9_comesUp 61 = .ok (.ifCond .le 17, 3) := by decide +kernel
theorem dX9_comesUp_64 : decode cX9_comesUp 64 = .ok (.iload 4, 2) := by decide +kernel
theorem dX9_comesUp_66 : decode cX9_comesUp 66 = .ok (.iload 5, 2) := by decide +kernel
theorem dX9_comesUp_68 : decode cX9_comesUp 68 = .ok (.iadd, 1) := by decide +kernel
theorem dX9_comesUp_69 : decode cX9_comesUp 69 = .ok (.iload 6, 2) := by decide +kernel
theorem dX9_comesUp_71 : decode cX9_comesUp 71 = .ok (.if_icmp .ge 7, 3) := by decide +kernel
theorem dX9_comesUp_74 : decode cX9_comesUp 74 = .ok (.iconst 1, 1) := by decide +kernel
theorem dX9_comesUp_75 : decode cX9_comesUp 75 = .ok (.goto 4, 3) := by decide +kernel
theorem dX9_comesUp_78 : decode cX9_comesUp 78 = .ok (.iconst 3, 1) := by decide +kernel
theorem dX9_comesUp_79 : decode cX9_comesUp 79 = .ok (.ireturn, 1) := by decide +kernel
theorem dX10_init_0 : decode cX10_init 0 = .ok (.aload_n 0, 1) := by decide +kernel
theorem dX10_init_1 : decode cX10_init 1 = .ok (.invokespecial 3, 3) := by decide +kernel
theorem dX10_init_4 : decode cX10_init 4 = .ok (.aload_n 0, 1) := by decide +kernel
theorem dX10_init_5 : decode cX10_init 5 = .ok (.sipush 900, 3) := by decide +kernel
theorem dX10_init_8 : decode cX10_init 8 = .ok (.newarray .int, 2) := by decide +kernel
theorem dX10_init_10 : decode cX10_init 10 = .ok (.putfield 9, 3) := by decide +kernel
theorem dX10_init_13 : decode cX10_init 13 = .ok (.return_, 1) := by decide +kernel
theorem dX10_append_0 : decode cX10_append 0 = .ok (.bipush 24, 2) := by decide +kernel
theorem dX10_append_2 : decode cX10_append 2 = .ok (.istore_n 2, 1) := by decide +kernel
theorem dX10_append_3 : decode cX10_append 3 = .ok (.iload_n 2, 1) := by decide +kernel
theorem dX10_append_4 : decode cX10_append 4 = .ok (.ifCond .lt 45, 3) := by decide +kernel
theorem dX10_append_7 : decode cX10_append 7 = .ok (.aload_n 0, 1) := by decide +kernel
theorem dX10_append_8 : decode cX10_append 8 = .ok (.getfield 15, 3) := by decide +kernel
theorem dX10_append_11 : decode cX10_append 11 = .ok (.sipush 900, 3) := by decide +kernel
theorem dX10_append_14 : decode cX10_append 14 = .ok (.if_icmp .ge 35, 3) := by decide +kernel
theorem dX10_append_17 : decode cX10_append 17 = .ok (.aload_n 0, 1) := by decide +kernel
theorem dX10_append_18 : decode cX10_append 18 = .ok (.getfield 9, 3) := by decide +kernel
theorem dX10_append_21 : decode cX10_append 21 = .ok (.aload_n 0, 1) := by decide +kernel
theorem dX10_append_22 : decode cX10_append 22 = .ok (.getfield 15, 3) := by decide +kernel
theorem dX10_append_25 : decode cX10_append 25 = .ok (.iload_n 1, 1) := by decide +kernel
theorem dX10_append_26 : decode cX10_append 26 = .ok (.iload_n 2, 1) := by decide +kernel
theorem dX10_append_27 : decode cX10_append 27 = .ok (.iushr, 1) := by decide +kernel
theorem dX10_append_28 : decode cX10_append 28 = .ok (.sipush 255, 3) := by decide +kernel
theorem dX10_append_31 : decode cX10_append 31 = .ok (.iand, 1) := by decide +kernel
theorem dX10_append_32 : decode cX10_append 32 = .ok (.iastore, 1) := by decide +kernel
theorem dX10_append_33 : decode cX10_append 33 = .ok (.aload_n 0, 1) := by decide +kernel
theorem dX10_append_34 : decode cX10_append 34 = .ok (.dup, 1) := by decide +kernel
theorem dX10_append_35 : decode cX10_append 35 = .ok (.getfield 15, 3) := by decide +kernel
theorem dX10_append_38 : decode cX10_append 38 = .ok (.iconst 1, 1) := by decide +kernel
theorem dX10_append_39 : decode cX10_append 39 = .ok (.iadd, 1) := by decide +kernel
theorem dX10_append_40 : decode cX10_append 40 = .ok (.putfield 15, 3) := by decide +kernel
theorem dX10_append_43 : decode cX10_append 43 = .ok (.iinc 2 (-8), 3) := by decide +kernel
theorem dX10_append_46 : decode cX10_append 46 = .ok (.goto (-43), 3) := by decide +kernel
theorem dX10_append_49 : decode cX10_append 49 = .ok (.return_, 1) := by decide +kernel
theorem dX10_at_0 : decode cX10_at 0 = .ok (.iload_n 1, 1) := by decide +kernel
theorem dX10_at_1 : decode cX10_at 1 = .ok (.ifCond .lt 20, 3) := by decide +kernel
theorem dX10_at_4 : decode cX10_at 4 = .ok (.iload_n 1, 1) := by decide +kernel
theorem dX10_at_5 : decode cX10_at 5 = .ok (.aload_n 0, 1) := by decide +kernel
theorem dX10_at_6 : decode cX10_at 6 = .ok (.getfield 15, 3) := by decide +kernel
theorem dX10_at_9 : decode cX10_at 9 = .ok (.if_icmp .ge 12, 3) := by decide +kernel
theorem dX10_at_12 : decode cX10_at 12 = .ok (.aload_n 0, 1) := by decide +kernel
theorem dX10_at_13 : decode cX10_at 13 = .ok (.getfield 9, 3) := by decide +kernel
theorem dX10_at_16 : decode cX10_at 16 = .ok (.iload_n 1, 1) := by decide +kernel
theorem dX10_at_17 : decode cX10_at 17 = .ok (.iaload, 1) := by decide +kernel
theorem dX10_at_18 : decode cX10_at 18 = .ok (.goto 4, 3) := by decide +kernel
theorem dX10_at_21 : decode cX10_at 21 = .ok (.iconst (-1), 1) := by decide +kernel
theorem dX10_at_22 : decode cX10_at 22 = .ok (.ireturn, 1) := by decide +kernel
theorem dX11_init_0 : decode cX11_init 0 = .ok (.aload_n 0, 1) := by decide +kernel
theorem dX11_init_1 : decode cX11_init 1 = .ok (.invokespecial 1, 3) := by decide +kernel
theorem dX11_init_4 : decode cX11_init 4 = .ok (.aload_n 0, 1) := by decide +kernel
theorem dX11_init_5 : decode cX11_init 5 = .ok (.new 7, 3) := by decide +kernel
theorem dX11_init_8 : decode cX11_init 8 = .ok (.dup, 1) := by decide +kernel
theorem dX11_init_9 : decode cX11_init 9 = .ok (.invokespecial 9, 3) := by decide +kernel
theorem dX11_init_12 : decode cX11_init 12 = .ok (.putfield 10, 3) := by decide +kernel
theorem dX11_init_15 : decode cX11_init 15 = .ok (.aload_n 0, 1) := by decide +kernel
theorem dX11_init_16 : decode cX11_init 16 = .ok (.new 16, 3) := by decide +kernel
theorem dX11_init_19 : decode cX11_init 19 = .ok (.dup, 1) := by decide +kernel
theorem dX11_init_20 : decode cX11_init 20 = .ok (.invokespecial 18, 3) := by decide +kernel
theorem dX11_init_23 : decode cX11_init 23 = .ok (.putfield 19, 3) := by decide +kernel
theorem dX11_init_26 : decode cX11_init 26 = .ok (.aload_n 0, 1) := by decide +kernel
theorem dX11_init_27 : decode cX11_init 27 = .ok (.new 16, 3) := by decide +kernel
theorem dX11_init_30 : decode cX11_init 30 = .ok (.dup, 1) := by decide +kernel
theorem dX11_init_31 : decode cX11_init 31 = .ok (.invokespecial 18, 3) := by decide +kernel
theorem dX11_init_34 : decode cX11_init 34 = .ok (.putfield 23, 3) := by decide +kernel
theorem dX11_init_37 : decode cX11_init 37 = .ok (.aload_n 0, 1) := by decide +kernel
theorem dX11_init_38 : decode cX11_init 38 = .ok (.new 26, 3) := by decide +kernel
theorem dX11_init_41 : decode cX11_init 41 = .ok (.dup, 1) := by decide +kernel
theorem dX11_init_42 : decode cX11_init 42 = .ok (.aload_n 0, 1) := by decide +kernel
theorem dX11_init_43 : decode cX11_init 43 = .ok (.getfield 10, 3) := by decide +kernel
theorem dX11_init_46 : decode cX11_init 46 = .ok (.aload_n 0, 1) := by decide +kernel
theorem dX11_init_47 : decode cX11_init 47 = .ok (.getfield 23, 3) := by decide +kernel
theorem dX11_init_50 : decode cX11_init 50 = .ok (.invokespecial 28, 3) := by decide +kernel
theorem dX11_init_53 : decode cX11_init 53 = .ok (.putfield 31, 3) := by decide +kernel
theorem dX11_init_56 : decode cX11_init 56 = .ok (.aload_n 0, 1) := by decide +kernel
theorem dX11_init_57 : decode cX11_init 57 = .ok (.new 35, 3) := by decide +kernel
theorem dX11_init_60 : decode cX11_init 60 = .ok (.dup, 1) := by decide +kernel
theorem dX11_init_61 : decode cX11_init 61 = .ok (.invokespecial 37, 3) := by decide +kernel
theorem dX11_init_64 : decode cX11_init 64 = .ok (.putfield 38, 3) := by decide +kernel
theorem dX11_init_67 : decode cX11_init 67 = .ok (.aload_n 0, 1) := by decide +kernel
theorem dX11_init_68 : decode cX11_init 68 = .ok (.iconst 2, 1) := by decide +kernel
theorem dX11_init_69 : decode cX11_init 69 = .ok (.anewarray 35, 3) := by decide +kernel
theorem dX11_init_72 : decode cX11_init 72 = .ok (.putfield 42, 3) := by decide +kernel
theorem dX11_init_75 : decode cX11_init 75 = .ok (.iconst 0, 1) := by decide +kernel
theorem dX11_init_76 : decode cX11_init 76 = .ok (.istore_n 1, 1) := by decide +kernel
theorem dX11_init_77 : decode cX11_init 77 = .ok (.iload_n 1, 1) := by decide +kernel
theorem dX11_init_78 : decode cX11_init 78 = .ok (.iconst 2, 1) := by decide +kernel
theorem dX11_init_79 : decode cX11_init 79 = .ok (.if_icmp .ge 22, 3) := by decide +kernel
theorem dX11_init_82 : decode cX11_init 82 = .ok (.aload_n 0, 1) := by decide +kernel
theorem dX11_init_83 : decode cX11_init 83 = .ok (.getfield 42, 3) := by decide +kernel
theorem dX11_init_86 : decode cX11_init 86 = .ok (.iload_n 1, 1) := by decide +kernel
theorem dX11_init_87 : decode cX11_init 87 = .ok (.new 35, 3) := by decide +kernel
theorem dX11_init_90 : decode cX11_init 90 = .ok (.dup, 1) := by decide +kernel
theorem dX11_init_91 : decode cX11_init 91 = .ok (.invokespecial 37, 3) := by decide +kernel
theorem dX11_init_94 : decode cX11_init 94 = .ok (.aastore, 1) := by decide +kernel
theorem dX11_init_95 : decode cX11_init 95 = .ok (.iinc 1 1, 3) := by decide +kernel
theorem dX11_init_98 : decode cX11_init 98 = .ok (.goto (-21), 3) := by decide +kernel
theorem dX11_init_101 : decode cX11_init 101 = .ok (.aload_n 0, 1) := by decide +kernel
theorem dX11_init_102 : decode cX11_init 102 = .ok (.new 46, 3) := by decide +kernel
theorem dX11_init_105 : decode cX11_init 105 = .ok (.dup, 1) := by decide +kernel
theorem dX11_init_106 : decode cX11_init 106 = .ok (.invokespecial 48, 3) := by decide +kernel
theorem dX11_init_109 : decode cX11_init 109 = .ok (.putfield 49, 3) := by decide +kernel
theorem dX11_init_112 : decode cX11_init 112 = .ok (.aload_n 0, 1) := by decide +kernel
theorem dX11_init_113 : decode cX11_init 113 = .ok (.new 53, 3) := by decide +kernel
theorem dX11_init_116 : decode cX11_init 116 = .ok (.dup, 1) := by decide +kernel
theorem dX11_init_117 : decode cX11_init 117 = .ok (.invokespecial 55, 3) := by decide +kernel
theorem dX11_init_120 : decode cX11_init 120 = .ok (.putfield 56, 3) := by decide +kernel
theorem dX11_init_123 : decode cX11_init 123 = .ok (.aload_n 0, 1) := by decide +kernel
theorem dX11_init_124 : decode cX11_init 124 = .ok (.new 60, 3) := by decide +kernel
theorem dX11_init_127 : decode cX11_init 127 = .ok (.dup, 1) := by decide +kernel
theorem dX11_init_128 : decode cX11_init 128 = .ok (.invokespecial 62, 3) := by decide +kernel
theorem dX11_init_131 : decode cX11_init 131 = .ok (.putfield 63, 3) := by decide +kernel
theorem dX11_init_134 : decode cX11_init 134 = .ok (.aload_n 0, 1) := by decide +kernel
theorem dX11_init_135 : decode cX11_init 135 = .ok (.new 67, 3) := by decide +kernel
theorem dX11_init_138 : decode cX11_init 138 = .ok (.dup, 1) := by decide +kernel
theorem dX11_init_139 : decode cX11_init 139 = .ok (.invokespecial 69, 3) := by decide +kernel
theorem dX11_init_142 : decode cX11_init 142 = .ok (.putfield 70, 3) := by decide +kernel
theorem dX11_init_145 : decode cX11_init 145 = .ok (.aload_n 0, 1) := by decide +kernel
theorem dX11_init_146 : decode cX11_init 146 = .ok (.new 74, 3) := by decide +kernel
theorem dX11_init_149 : decode cX11_init 149 = .ok (.dup, 1) := by decide +kernel
theorem dX11_init_150 : decode cX11_init 150 = .ok (.invokespecial 76, 3) := by decide +kernel
theorem dX11_init_153 : decode cX11_init 153 = .ok (.putfield 77, 3) := by decide +kernel
theorem dX11_init_156 : decode cX11_init 156 = .ok (.aload_n 0, 1) := by decide +kernel
theorem dX11_init_157 : decode cX11_init 157 = .ok (.new 81, 3) := by decide +kernel
theorem dX11_init_160 : decode cX11_init 160 = .ok (.dup, 1) := by decide +kernel
theorem dX11_init_161 : decode cX11_init 161 = .ok (.invokespecial 83, 3) := by decide +kernel
theorem dX11_init_164 : decode cX11_init 164 = .ok (.putfield 84, 3) := by decide +kernel
theorem dX11_init_167 : decode cX11_init 167 = .ok (.return_, 1) := by decide +kernel
theorem dX11_feed_0 : decode cX11_feed 0 = .ok (.aload_n 0, 1) := by decide +kernel
theorem dX11_feed_1 : decode cX11_feed 1 = .ok (.getfield 10, 3) := by decide +kernel
theorem dX11_feed_4 : decode cX11_feed 4 = .ok (.getfield 88, 3) := by decide +kernel
theorem dX11_feed_7 : decode cX11_feed 7 = .ok (.bipush 20, 2) := by decide +kernel
theorem dX11_feed_9 : decode cX11_feed 9 = .ok (.iadd, 1) := by decide +kernel
theorem dX11_feed_10 : decode cX11_feed 10 = .ok (.sipush 900, 3) := by decide +kernel
theorem dX11_feed_13 : decode cX11_feed 13 = .ok (.if_icmp .le 6, 3) := by decide +kernel
theorem dX11_feed_16 : decode cX11_feed 16 = .ok (.bipush (-3), 2) := by decide +kernel
theorem dX11_feed_18 : decode cX11_feed 18 = .ok (.ireturn, 1) := by decide +kernel
theorem dX11_feed_19 : decode cX11_feed 19 = .ok (.aload_n 0, 1) := by decide +kernel
theorem dX11_feed_20 : decode cX11_feed 20 = .ok (.getfield 10, 3) := by decide +kernel
theorem dX11_feed_23 : decode cX11_feed 23 = .ok (.iload_n 1, 1) := by decide +kernel
theorem dX11_feed_24 : decode cX11_feed 24 = .ok (.invokevirtual 92, 3) := by decide +kernel
theorem dX11_feed_27 : decode cX11_feed 27 = .ok (.aload_n 0, 1) := by decide +kernel
theorem dX11_feed_28 : decode cX11_feed 28 = .ok (.getfield 10, 3) := by decide +kernel
theorem dX11_feed_31 : decode cX11_feed 31 = .ok (.iload_n 2, 1) := by decide +kernel
theorem dX11_feed_32 : decode cX11_feed 32 = .ok (.invokevirtual 92, 3) := by decide +kernel
theorem dX11_feed_35 : decode cX11_feed 35 = .ok (.aload_n 0, 1) := by decide +kernel
theorem dX11_feed_36 : decode cX11_feed 36 = .ok (.getfield 10, 3) := by decide +kernel
theorem dX11_feed_39 : decode cX11_feed 39 = .ok (.iload_n 3, 1) := by decide +kernel
theorem dX11_feed_40 : decode cX11_feed 40 = .ok (.invokevirtual 92, 3) := by decide +kernel
theorem dX11_feed_43 : decode cX11_feed 43 = .ok (.aload_n 0, 1) := by decide +kernel
theorem dX11_feed_44 : decode cX11_feed 44 = .ok (.getfield 10, 3) := by decide +kernel
theorem dX11_feed_47 : decode cX11_feed 47 = .ok (.iload 4, 2) := by decide +kernel
theorem dX11_feed_49 : decode cX11_feed 49 = .ok (.invokevirtual 92, 3) := by decide +kernel
theorem dX11_feed_52 : decode cX11_feed 52 = .ok (.aload_n 0, 1) := by decide +kernel
theorem dX11_feed_53 : decode cX11_feed 53 = .ok (.getfield 10, 3) := by decide +kernel
theorem dX11_feed_56 : decode cX11_feed 56 = .ok (.iload 5, 2) := by decide +kernel
theorem dX11_feed_58 : decode cX11_feed 58 = .ok (.invokevirtual 92, 3) := by decide +kernel
theorem dX11_feed_61 : decode cX11_feed 61 = .ok (.aload_n 0, 1) := by decide +kernel
theorem dX11_feed_62 : decode cX11_feed 62 = .ok (.getfield 10, 3) := by decide +kernel
theorem dX11_feed_65 : decode cX11_feed 65 = .ok (.getfield 88, 3) := by decide +kernel
theorem dX11_feed_68 : decode cX11_feed 68 = .ok (.ireturn, 1) := by decide +kernel
theorem dX11_end_0 : decode cX11_end 0 = .ok (.iload_n 1, 1) := by decide +kernel
theorem dX11_end_1 : decode cX11_end 1 = .ok (.ifCond .lt 14, 3) := by decide +kernel
theorem dX11_end_4 : decode cX11_end 4 = .ok (.iload_n 1, 1) := by decide +kernel
theorem dX11_end_5 : decode cX11_end 5 = .ok (.aload_n 0, 1) := by decide +kernel
theorem dX11_end_6 : decode cX11_end 6 = .ok (.getfield 10, 3) := by decide +kernel
theorem dX11_end_9 : decode cX11_end 9 = .ok (.getfield 88, 3) := by decide +kernel
theorem dX11_end_12 : decode cX11_end 12 = .ok (.if_icmp .le 5, 3) := by decide +kernel
theorem dX11_end_15 : decode cX11_end 15 = .ok (.iconst (-1), 1) := by decide +kernel
theorem dX11_end_16 : decode cX11_end 16 = .ok (.ireturn, 1) := by decide +kernel
theorem dX11_end_17 : decode cX11_end 17 = .ok (.aload_n 0, 1) := by decide +kernel
theorem dX11_end_18 : decode cX11_end 18 = .ok (.getfield 10, 3) := by decide +kernel
theorem dX11_end_21 : decode cX11_end 21 = .ok (.iload_n 1, 1) := by decide +kernel
theorem dX11_end_22 : decode cX11_end 22 = .ok (.putfield 88, 3) := by decide +kernel
theorem dX11_end_25 : decode cX11_end 25 = .ok (.iload_n 1, 1) := by decide +kernel
theorem dX11_end_26 : decode cX11_end 26 = .ok (.ireturn, 1) := by decide +kernel
theorem dX11_camp_0 : decode cX11_camp 0 = .ok (.aload_n 0, 1) := by decide +kernel
theorem dX11_camp_1 : decode cX11_camp 1 = .ok (.getfield 31, 3) := by decide +kernel
theorem dX11_camp_4 : decode cX11_camp 4 = .ok (.aload_n 0, 1) := by decide +kernel
theorem dX11_camp_5 : decode cX11_camp 5 = .ok (.getfield 23, 3) := by decide +kernel
theorem dX11_camp_8 : decode cX11_camp 8 = .ok (.invokevirtual 96, 3) := by decide +kernel
theorem dX11_camp_11 : decode cX11_camp 11 = .ok (.istore_n 1, 1) := by decide +kernel
theorem dX11_camp_12 : decode cX11_camp 12 = .ok (.aload_n 0, 1) := by decide +kernel
theorem dX11_camp_13 : decode cX11_camp 13 = .ok (.getfield 10, 3) := by decide +kernel
theorem dX11_camp_16 : decode cX11_camp 16 = .ok (.iconst 0, 1) := by decide +kernel
theorem dX11_camp_17 : decode cX11_camp 17 = .ok (.putfield 88, 3) := by decide +kernel
theorem dX11_camp_20 : decode cX11_camp 20 = .ok (.iload_n 1, 1) := by decide +kernel
theorem dX11_camp_21 : decode cX11_camp 21 = .ok (.ifCond .ne 5, 3) := by decide +kernel
theorem dX11_camp_24 : decode cX11_camp 24 = .ok (.iconst (-1), 1) := by decide +kernel
theorem dX11_camp_25 : decode cX11_camp 25 = .ok (.ireturn, 1) := by decide +kernel
theorem dX11_camp_26 : decode cX11_camp 26 = .ok (.aload_n 0, 1) := by decide +kernel
theorem dX11_camp_27 : decode cX11_camp 27 = .ok (.getfield 19, 3) := by decide +kernel
theorem dX11_camp_30 : decode cX11_camp 30 = .ok (.astore_n 2, 1) := by decide +kernel
theorem dX11_camp_31 : decode cX11_camp 31 = .ok (.aload_n 0, 1) := by decide +kernel
theorem dX11_camp_32 : decode cX11_camp 32 = .ok (.aload_n 0, 1) := by decide +kernel
theorem dX11_camp_33 : decode cX11_camp 33 = .ok (.getfield 23, 3) := by decide +kernel
theorem dX11_camp_36 : decode cX11_camp 36 = .ok (.putfield 19, 3) := by decide +kernel
theorem dX11_camp_39 : decode cX11_camp 39 = .ok (.aload_n 0, 1) := by decide +kernel
theorem dX11_camp_40 : decode cX11_camp 40 = .ok (.aload_n 2, 1) := by decide +kernel
theorem dX11_camp_41 : decode cX11_camp 41 = .ok (.putfield 23, 3) := by decide +kernel
theorem dX11_camp_44 : decode cX11_camp 44 = .ok (.aload_n 0, 1) := by decide +kernel
theorem dX11_camp_45 : decode cX11_camp 45 = .ok (.getfield 38, 3) := by decide +kernel
theorem dX11_camp_48 : decode cX11_camp 48 = .ok (.invokevirtual 100, 3) := by decide +kernel
theorem dX11_camp_51 : decode cX11_camp 51 = .ok (.iconst 0, 1) := by decide +kernel
theorem dX11_camp_52 : decode cX11_camp 52 = .ok (.istore_n 3, 1) := by decide +kernel
theorem dX11_camp_53 : decode cX11_camp 53 = .ok (.iload_n 3, 1) := by decide +kernel
theorem dX11_camp_54 : decode cX11_camp 54 = .ok (.iconst 2, 1) := by decide +kernel
theorem dX11_camp_55 : decode cX11_camp 55 = .ok (.if_icmp .ge 19, 3) := by decide +kernel
theorem dX11_camp_58 : decode cX11_camp 58 = .ok (.aload_n 0, 1) := by decide +kernel
theorem dX11_camp_59 : decode cX11_camp 59 = .ok (.getfield 42, 3) := by decide +kernel
theorem dX11_camp_62 : decode cX11_camp 62 = .ok (.iload_n 3, 1) := by decide +kernel
theorem dX11_camp_63 : decode cX11_camp 63 = .ok (.aaload, 1) := by decide +kernel
theorem dX11_camp_64 : decode cX11_camp 64 = .ok (.iconst 0, 1) := by decide +kernel
theorem dX11_camp_65 : decode cX11_camp 65 = .ok (.putfield 103, 3) := by decide +kernel
theorem dX11_camp_68 : decode cX11_camp 68 = .ok (.iinc 3 1, 3) := by decide +kernel
theorem dX11_camp_71 : decode cX11_camp 71 = .ok (.goto (-18), 3) := by decide +kernel
theorem dX11_camp_74 : decode cX11_camp 74 = .ok (.aload_n 0, 1) := by decide +kernel
theorem dX11_camp_75 : decode cX11_camp 75 = .ok (.getfield 56, 3) := by decide +kernel
theorem dX11_camp_78 : decode cX11_camp 78 = .ok (.invokevirtual 107, 3) := by decide +kernel
theorem dX11_camp_81 : decode cX11_camp 81 = .ok (.aload_n 0, 1) := by decide +kernel
theorem dX11_camp_82 : decode cX11_camp 82 = .ok (.getfield 70, 3) := by decide +kernel
theorem dX11_camp_85 : decode cX11_camp 85 = .ok (.invokevirtual 108, 3) := by decide +kernel
theorem dX11_camp_88 : decode cX11_camp 88 = .ok (.aload_n 0, 1) := by decide +kernel
theorem dX11_camp_89 : decode cX11_camp 89 = .ok (.getfield 77, 3) := by decide +kernel
theorem dX11_camp_92 : decode cX11_camp 92 = .ok (.invokevirtual 109, 3) := by decide +kernel
theorem dX11_camp_95 : decode cX11_camp 95 = .ok (.aload_n 0, 1) := by decide +kernel
theorem dX11_camp_96 : decode cX11_camp 96 = .ok (.getfield 84, 3) := by decide +kernel
theorem dX11_camp_99 : decode cX11_camp 99 = .ok (.invokevirtual 112, 3) := by decide +kernel
theorem dX11_camp_102 : decode cX11_camp 102 = .ok (.aload_n 0, 1) := by decide +kernel
theorem dX11_camp_103 : decode cX11_camp 103 = .ok (.getfield 19, 3) := by decide +kernel
theorem dX11_camp_106 : decode cX11_camp 106 = .ok (.getfield 113, 3) := by decide +kernel
theorem dX11_camp_109 : decode cX11_camp 109 = .ok (.ireturn, 1) := by decide +kernel
theorem dX11_fault_0 : decode cX11_fault 0 = .ok (.iload_n 1, 1) := by decide +kernel
theorem dX11_fault_1 : decode cX11_fault 1 = .ok (.ifCond .ne 11, 3) := by decide +kernel
theorem dX11_fault_4 : decode cX11_fault 4 = .ok (.aload_n 0, 1) := by decide +kernel
theorem dX11_fault_5 : decode cX11_fault 5 = .ok (.getfield 31, 3) := by decide +kernel
theorem dX11_fault_8 : decode cX11_fault 8 = .ok (.getfield 116, 3) := by decide +kernel
theorem dX11_fault_11 : decode cX11_fault 11 = .ok (.ireturn, 1) := by decide +kernel
theorem dX11_fault_12 : decode cX11_fault 12 = .ok (.iload_n 1, 1) := by decide +kernel
theorem dX11_fault_13 : decode cX11_fault 13 = .ok (.iconst 1, 1) := by decide +kernel
theorem dX11_fault_14 : decode cX11_fault 14 = .ok (.if_icmp .ne 13, 3) := by decide +kernel
theorem dX11_fault_17 : decode cX11_fault 17 = .ok (.aload_n 0, 1) := by decide +kernel
theorem dX11_fault_18 : decode cX11_fault 18 = .ok (.getfield 31, 3) := by decide +kernel
theorem dX11_fault_21 : decode cX11_fault 21 = .ok (.getfield 119, 3) := by decide +kernel
theorem dX11_fault_24 : decode cX11_fault 24 = .ok (.goto 4, 3) := by decide +kernel
theorem dX11_fault_27 : decode cX11_fault 27 = .ok (.iconst (-1), 1) := by decide +kernel
theorem dX11_fault_28 : decode cX11_fault 28 = .ok (.ireturn, 1) := by decide +kernel
theorem dX11_told_0 : decode cX11_told 0 = .ok (.iload_n 1, 1) := by decide +kernel
theorem dX11_told_1 : decode cX11_told 1 = .ok (.ifCond .ge 5, 3) := by decide +kernel
theorem dX11_told_4 : decode cX11_told 4 = .ok (.iconst (-1), 1) := by decide +kernel
theorem dX11_told_5 : decode cX11_told 5 = .ok (.ireturn, 1) := by decide +kernel
theorem dX11_told_6 : decode cX11_told 6 = .ok (.iload_n 1, 1) := by decide +kernel
theorem dX11_told_7 : decode cX11_told 7 = .ok (.bipush 20, 2) := by decide +kernel
theorem dX11_told_9 : decode cX11_told 9 = .ok (.if_icmp .ge 12, 3) := by decide +kernel
theorem dX11_told_12 : decode cX11_told 12 = .ok (.aload_n 0, 1) := by decide +kernel
theorem dX11_told_13 : decode cX11_told 13 = .ok (.getfield 19, 3) := by decide +kernel
theorem dX11_told_16 : decode cX11_told 16 = .ok (.iload_n 1, 1) := by decide +kernel
theorem dX11_told_17 : decode cX11_told 17 = .ok (.invokevirtual 122, 3) := by decide +kernel
theorem dX11_told_20 : decode cX11_told 20 = .ok (.ireturn, 1) := by decide +kernel
theorem dX11_told_21 : decode cX11_told 21 = .ok (.iload_n 1, 1) := by decide +kernel
theorem dX11_told_22 : decode cX11_told 22 = .ok (.bipush 60, 2) := by decide +kernel
theorem dX11_told_24 : decode cX11_told 24 = .ok (.if_icmp .ge 19, 3) := by decide +kernel
theorem dX11_told_27 : decode cX11_told 27 = .ok (.aload_n 0, 1) := by decide +kernel
theorem dX11_told_28 : decode cX11_told 28 = .ok (.getfield 19, 3) := by decide +kernel
theorem dX11_told_31 : decode cX11_told 31 = .ok (.iload_n 1, 1) := by decide +kernel
theorem dX11_told_32 : decode cX11_told 32 = .ok (.bipush 10, 2) := by decide +kernel
theorem dX11_told_34 : decode cX11_told 34 = .ok (.idiv, 1) := by decide +kernel
theorem dX11_told_35 : decode cX11_told 35 = .ok (.iload_n 1, 1) := by decide +kernel
theorem dX11_told_36 : decode cX11_told 36 = .ok (.bipush 10, 2) := by decide +kernel
theorem dX11_told_38 : decode cX11_told 38 = .ok (.irem, 1) := by decide +kernel
theorem dX11_told_39 : decode cX11_told 39 = .ok (.invokevirtual 126, 3) := by decide +kernel
theorem dX11_told_42 : decode cX11_told 42 = .ok (.ireturn, 1) := by decide +kernel
theorem dX11_told_43 : decode cX11_told 43 = .ok (.iload_n 1, 1) := by decide +kernel
theorem dX11_told_44 : decode cX11_told 44 = .ok (.bipush 90, 2) := by decide +kernel
theorem dX11_told_46 : decode cX11_told 46 = .ok (.if_icmp .ge 19, 3) := by decide +kernel
theorem dX11_told_49 : decode cX11_told 49 = .ok (.aload_n 0, 1) := by decide +kernel
theorem dX11_told_50 : decode cX11_told 50 = .ok (.getfield 19, 3) := by decide +kernel
theorem dX11_told_53 : decode cX11_told 53 = .ok (.iload_n 1, 1) := by decide +kernel
theorem dX11_told_54 : decode cX11_told 54 = .ok (.bipush 10, 2) := by decide +kernel
theorem dX11_told_56 : decode cX11_told 56 = .ok (.idiv, 1) := by decide +kernel
theorem dX11_told_57 : decode cX11_told 57 = .ok (.iload_n 1, 1) := by decide +kernel
theorem dX11_told_58 : decode cX11_told 58 = .ok (.bipush 10, 2) := by decide +kernel
theorem dX11_told_60 : decode cX11_told 60 = .ok (.irem, 1) := by decide +kernel
theorem dX11_told_61 : decode cX11_told 61 = .ok (.invokevirtual 130, 3) := by decide +kernel
theorem dX11_told_64 : decode cX11_told 64 = .ok (.ireturn, 1) := by decide +kernel
theorem dX11_told_65 : decode cX11_told 65 = .ok (.iload_n 1, 1) := by decide +kernel
theorem dX11_told_66 : decode cX11_told 66 = .ok (.bipush 90, 2) := by decide +kernel
theorem dX11_told_68 : decode cX11_told 68 = .ok (.isub, 1) := by decide +kernel
theorem dX11_told_69 : decode cX11_told 69 = .ok (.aload_n 0, 1) := by decide +kernel
theorem dX11_told_70 : decode cX11_told 70 = .ok (.getfield 19, 3) := by decide +kernel
theorem dX11_told_73 : decode cX11_told 73 = .ok (.getfield 133, 3) := by decide +kernel
theorem dX11_told_76 : decode cX11_told 76 = .ok (.if_icmp .ge 18, 3) := by decide +kernel
theorem dX11_told_79 : decode cX11_told 79 = .ok (.aload_n 0, 1) := by decide +kernel
theorem dX11_told_80 : decode cX11_told 80 = .ok (.getfield 19, 3) := by decide +kernel
theorem dX11_told_83 : decode cX11_told 83 = .ok (.getfield 136, 3) := by decide +kernel
theorem dX11_told_86 : decode cX11_told 86 = .ok (.iload_n 1, 1) := by decide +kernel
theorem dX11_told_87 : decode cX11_told 87 = .ok (.bipush 90, 2) := by decide +kernel
theorem dX11_told_89 : decode cX11_told 89 = .ok (.isub, 1) := by decide +kernel
theorem dX11_told_90 : decode cX11_told 90 = .ok (.iaload, 1) := by decide +kernel
theorem dX11_told_91 : decode cX11_told 91 = .ok (.goto 4, 3) := by decide +kernel
theorem dX11_told_94 : decode cX11_told 94 = .ok (.iconst (-1), 1) := by decide +kernel
theorem dX11_told_95 : decode cX11_told 95 = .ok (.ireturn, 1) := by decide +kernel
theorem dX11_run_0 : decode cX11_run 0 = .ok (.aload_n 0, 1) := by decide +kernel
theorem dX11_run_1 : decode cX11_run 1 = .ok (.iload_n 1, 1) := by decide +kernel
theorem dX11_run_2 : decode cX11_run 2 = .ok (.invokevirtual 140, 3) := by decide +kernel
theorem dX11_run_5 : decode cX11_run 5 = .ok (.ifCond .eq 23, 3) := by decide +kernel
theorem dX11_run_8 : decode cX11_run 8 = .ok (.aload_n 0, 1) := by decide +kernel
theorem dX11_run_9 : decode cX11_run 9 = .ok (.iload_n 2, 1) := by decide +kernel
theorem dX11_run_10 : decode cX11_run 10 = .ok (.invokevirtual 140, 3) := by decide +kernel
theorem dX11_run_13 : decode cX11_run 13 = .ok (.ifCond .eq 15, 3) := by decide +kernel
theorem dX11_run_16 : decode cX11_run 16 = .ok (.aload_n 0, 1) := by decide +kernel
theorem dX11_run_17 : decode cX11_run 17 = .ok (.getfield 19, 3) := by decide +kernel
theorem dX11_run_20 : decode cX11_run 20 = .ok (.iload_n 1, 1) := by decide +kernel
theorem dX11_run_21 : decode cX11_run 21 = .ok (.iload_n 2, 1) := by decide +kernel
theorem dX11_run_22 : decode cX11_run 22 = .ok (.invokevirtual 144, 3) := by decide +kernel
theorem dX11_run_25 : decode cX11_run 25 = .ok (.goto 5, 3) := by decide +kernel
theorem dX11_run_28 : decode cX11_run 28 = .ok (.bipush (-2), 2) := by decide +kernel
theorem dX11_run_30 : decode cX11_run 30 = .ok (.ireturn, 1) := by decide +kernel
theorem dX11_chance_0 : decode cX11_chance 0 = .ok (.iload_n 1, 1) := by decide +kernel
theorem dX11_chance_1 : decode cX11_chance 1 = .ok (.ifCond .ge 6, 3) := by decide +kernel
theorem dX11_chance_4 : decode cX11_chance 4 = .ok (.bipush (-2), 2) := by decide +kernel
theorem dX11_chance_6 : decode cX11_chance 6 = .ok (.ireturn, 1) := by decide +kernel
theorem dX11_chance_7 : decode cX11_chance 7 = .ok (.aload_n 0, 1) := by decide +kernel
theorem dX11_chance_8 : decode cX11_chance 8 = .ok (.getfield 38, 3) := by decide +kernel
theorem dX11_chance_11 : decode cX11_chance 11 = .ok (.getfield 147, 3) := by decide +kernel
theorem dX11_chance_14 : decode cX11_chance 14 = .ok (.iload_n 1, 1) := by decide +kernel
theorem dX11_chance_15 : decode cX11_chance 15 = .ok (.i2l, 1) := by decide +kernel
theorem dX11_chance_16 : decode cX11_chance 16 = .ok (.putfield 151, 3) := by decide +kernel
theorem dX11_chance_19 : decode cX11_chance 19 = .ok (.iconst 1, 1) := by decide +kernel
theorem dX11_chance_20 : decode cX11_chance 20 = .ok (.ireturn, 1) := by decide +kernel
theorem dX11_open_0 : decode cX11_open 0 = .ok (.aload_n 0, 1) := by decide +kernel
theorem dX11_open_1 : decode cX11_open 1 = .ok (.iload_n 1, 1) := by decide +kernel
theorem dX11_open_2 : decode cX11_open 2 = .ok (.invokevirtual 140, 3) := by decide +kernel
theorem dX11_open_5 : decode cX11_open 5 = .ok (.ifCond .ne 6, 3) := by decide +kernel
theorem dX11_open_8 : decode cX11_open 8 = .ok (.bipush (-2), 2) := by decide +kernel
theorem dX11_open_10 : decode cX11_open 10 = .ok (.ireturn, 1) := by decide +kernel
theorem dX11_open_11 : decode cX11_open 11 = .ok (.aload_n 0, 1) := by decide +kernel
theorem dX11_open_12 : decode cX11_open 12 = .ok (.getfield 38, 3) := by decide +kernel
theorem dX11_open_15 : decode cX11_open 15 = .ok (.getfield 157, 3) := by decide +kernel
theorem dX11_open_18 : decode cX11_open 18 = .ok (.iconst 3, 1) := by decide +kernel
theorem dX11_open_19 : decode cX11_open 19 = .ok (.if_icmp .ge 14, 3) := by decide +kernel
theorem dX11_open_22 : decode cX11_open 22 = .ok (.aload_n 0, 1) := by decide +kernel
theorem dX11_open_23 : decode cX11_open 23 = .ok (.getfield 38, 3) := by decide +kernel
theorem dX11_open_26 : decode cX11_open 26 = .ok (.iload_n 1, 1) := by decide +kernel
theorem dX11_open_27 : decode cX11_open 27 = .ok (.invokevirtual 160, 3) := by decide +kernel
theorem dX11_open_30 : decode cX11_open 30 = .ok (.goto 5, 3) := by decide +kernel
theorem dX11_open_33 : decode cX11_open 33 = .ok (.bipush (-3), 2) := by decide +kernel
theorem dX11_open_35 : decode cX11_open 35 = .ok (.ireturn, 1) := by decide +kernel
theorem dX11_shift_0 : decode cX11_shift 0 = .ok (.aload_n 0, 1) := by decide +kernel
theorem dX11_shift_1 : decode cX11_shift 1 = .ok (.iload_n 1, 1) := by decide +kernel
theorem dX11_shift_2 : decode cX11_shift 2 = .ok (.invokevirtual 163, 3) := by decide +kernel
theorem dX11_shift_5 : decode cX11_shift 5 = .ok (.ifCond .eq 13, 3) := by decide +kernel
theorem dX11_shift_8 : decode cX11_shift 8 = .ok (.iload_n 2, 1) := by decide +kernel
theorem dX11_shift_9 : decode cX11_shift 9 = .ok (.iconst 1, 1) := by decide +kernel
theorem dX11_shift_10 : decode cX11_shift 10 = .ok (.bipush 99, 2) := by decide +kernel
theorem dX11_shift_12 : decode cX11_shift 12 = .ok (.invokestatic 166, 3) := by decide +kernel
theorem dX11_shift_15 : decode cX11_shift 15 = .ok (.ifCond .ne 6, 3) := by decide +kernel
theorem dX11_shift_18 : decode cX11_shift 18 = .ok (.bipush (-2), 2) := by decide +kernel
theorem dX11_shift_20 : decode cX11_shift 20 = .ok (.ireturn, 1) := by decide +kernel
theorem dX11_shift_21 : decode cX11_shift 21 = .ok (.aload_n 0, 1) := by decide +kernel
theorem dX11_shift_22 : decode cX11_shift 22 = .ok (.getfield 38, 3) := by decide +kernel
theorem dX11_shift_25 : decode cX11_shift 25 = .ok (.aload_n 0, 1) := by decide +kernel
theorem dX11_shift_26 : decode cX11_shift 26 = .ok (.getfield 19, 3) := by decide +kernel
theorem dX11_shift_29 : decode cX11_shift 29 = .ok (.iload_n 1, 1) := by decide +kernel
theorem dX11_shift_30 : decode cX11_shift 30 = .ok (.iload_n 2, 1) := by decide +kernel
theorem dX11_shift_31 : decode cX11_shift 31 = .ok (.invokevirtual 170, 3) := by decide +kernel
theorem dX11_shift_34 : decode cX11_shift 34 = .ok (.ireturn, 1) := by decide +kernel
theorem dX11_tunnel_0 : decode cX11_tunnel 0 = .ok (.aload_n 0, 1) := by decide +kernel
theorem dX11_tunnel_1 : decode cX11_tunnel 1 = .ok (.iload_n 1, 1) := by decide +kernel
theorem dX11_tunnel_2 : decode cX11_tunnel 2 = .ok (.invokevirtual 163, 3) := by decide +kernel
theorem dX11_tunnel_5 : decode cX11_tunnel 5 = .ok (.ifCond .eq 19, 3) := by decide +kernel
theorem dX11_tunnel_8 : decode cX11_tunnel 8 = .ok (.aload_n 0, 1) := by decide +kernel
theorem dX11_tunnel_9 : decode cX11_tunnel 9 = .ok (.getfield 38, 3) := by decide +kernel
theorem dX11_tunnel_12 : decode cX11_tunnel 12 = .ok (.aload_n 0, 1) := by decide +kernel
theorem dX11_tunnel_13 : decode cX11_tunnel 13 = .ok (.getfield 19, 3) := by decide +kernel
theorem dX11_tunnel_16 : decode cX11_tunnel 16 = .ok (.iload_n 1, 1) := by decide +kernel
theorem dX11_tunnel_17 : decode cX11_tunnel 17 = .ok (.iload_n 2, 1) := by decide +kernel
theorem dX11_tunnel_18 : decode cX11_tunnel 18 = .ok (.invokevirtual 174, 3) := by decide +kernel
theorem dX11_tunnel_21 : decode cX11_tunnel 21 = .ok (.goto 5, 3) := by decide +kernel
theorem dX11_tunnel_24 : decode cX11_tunnel 24 = .ok (.bipush (-2), 2) := by decide +kernel
theorem dX11_tunnel_26 : decode cX11_tunnel 26 = .ok (.ireturn, 1) := by decide +kernel
theorem dX11_boards_0 : decode cX11_boards 0 = .ok (.aload_n 0, 1) := by decide +kernel
theorem dX11_boards_1 : decode cX11_boards 1 = .ok (.getfield 38, 3) := by decide +kernel
theorem dX11_boards_4 : decode cX11_boards 4 = .ok (.aload_n 0, 1) := by decide +kernel
theorem dX11_boards_5 : decode cX11_boards 5 = .ok (.getfield 19, 3) := by decide +kernel
theorem dX11_boards_8 : decode cX11_boards 8 = .ok (.invokevirtual 177, 3) := by decide +kernel
theorem dX11_boards_11 : decode cX11_boards 11 = .ok (.ireturn, 1) := by decide +kernel
theorem dX11_lies_0 : decode cX11_lies 0 = .ok (.aload_n 0, 1) := by decide +kernel
theorem dX11_lies_1 : decode cX11_lies 1 = .ok (.iload_n 1, 1) := by decide +kernel
theorem dX11_lies_2 : decode cX11_lies 2 = .ok (.invokevirtual 140, 3) := by decide +kernel
theorem dX11_lies_5 : decode cX11_lies 5 = .ok (.ifCond .eq 15, 3) := by decide +kernel
theorem dX11_lies_8 : decode cX11_lies 8 = .ok (.aload_n 0, 1) := by decide +kernel
theorem dX11_lies_9 : decode cX11_lies 9 = .ok (.getfield 38, 3) := by decide +kernel
theorem dX11_lies_12 : decode cX11_lies 12 = .ok (.getfield 181, 3) := by decide +kernel
theorem dX11_lies_15 : decode cX11_lies 15 = .ok (.iload_n 1, 1) := by decide +kernel
theorem dX11_lies_16 : decode cX11_lies 16 = .ok (.iaload, 1) := by decide +kernel
theorem dX11_lies_17 : decode cX11_lies 17 = .ok (.goto 5, 3) := by decide +kernel
theorem dX11_lies_20 : decode cX11_lies 20 = .ok (.bipush (-2), 2) := by decide +kernel
theorem dX11_lies_22 : decode cX11_lies 22 = .ok (.ireturn, 1) := by decide +kernel
theorem dX11_carry_0 : decode cX11_carry 0 = .ok (.aload_n 0, 1) := by decide +kernel
theorem dX11_carry_1 : decode cX11_carry 1 = .ok (.iload_n 1, 1) := by decide +kernel
theorem dX11_carry_2 : decode cX11_carry 2 = .ok (.invokevirtual 140, 3) := by decide +kernel
theorem dX11_carry_5 : decode cX11_carry 5 = .ok (.ifCond .eq 22, 3) := by decide +kernel
theorem dX11_carry_8 : decode cX11_carry 8 = .ok (.aload_n 0, 1) := by decide +kernel
theorem dX11_carry_9 : decode cX11_carry 9 = .ok (.iload_n 2, 1) := by decide +kernel
theorem dX11_carry_10 : decode cX11_carry 10 = .ok (.invokevirtual 184, 3) := by decide +kernel
theorem dX11_carry_13 : decode cX11_carry 13 = .ok (.ifCond .eq 14, 3) := by decide +kernel
theorem dX11_carry_16 : decode cX11_carry 16 = .ok (.iload_n 3, 1) := by decide +kernel
theorem dX11_carry_17 : decode cX11_carry 17 = .ok (.iconst 1, 1) := by decide +kernel
theorem dX11_carry_18 : decode cX11_carry 18 = .ok (.sipush 9999, 3) := by decide +kernel
theorem dX11_carry_21 : decode cX11_carry 21 = .ok (.invokestatic 166, 3) := by decide +kernel
theorem dX11_carry_24 : decode cX11_carry 24 = .ok (.ifCond .ne 6, 3) := by decide +kernel
theorem dX11_carry_27 : decode cX11_carry 27 = .ok (.bipush (-2), 2) := by decide +kernel
theorem dX11_carry_29 : decode cX11_carry 29 = .ok (.ireturn, 1) := by decide +kernel
theorem dX11_carry_30 : decode cX11_carry 30 = .ok (.aload_n 0, 1) := by decide +kernel
theorem dX11_carry_31 : decode cX11_carry 31 = .ok (.getfield 38, 3) := by decide +kernel
theorem dX11_carry_34 : decode cX11_carry 34 = .ok (.aload_n 0, 1) := by decide +kernel
theorem dX11_carry_35 : decode cX11_carry 35 = .ok (.getfield 19, 3) := by decide +kernel
theorem dX11_carry_38 : decode cX11_carry 38 = .ok (.iload_n 1, 1) := by decide +kernel
theorem dX11_carry_39 : decode cX11_carry 39 = .ok (.iload_n 2, 1) := by decide +kernel
theorem dX11_carry_40 : decode cX11_carry 40 = .ok (.iload_n 3, 1) := by decide +kernel
theorem dX11_carry_41 : decode cX11_carry 41 = .ok (.invokevirtual 187, 3) := by decide +kernel
theorem dX11_carry_44 : decode cX11_carry 44 = .ok (.ireturn, 1) := by decide +kernel
theorem dX11_had_0 : decode cX11_had 0 = .ok (.aload_n 0, 1) := by decide +kernel
theorem dX11_had_1 : decode cX11_had 1 = .ok (.iload_n 1, 1) := by decide +kernel
theorem dX11_had_2 : decode cX11_had 2 = .ok (.invokevirtual 184, 3) := by decide +kernel
theorem dX11_had_5 : decode cX11_had 5 = .ok (.ifCond .eq 15, 3) := by decide +kernel
theorem dX11_had_8 : decode cX11_had 8 = .ok (.aload_n 0, 1) := by decide +kernel
theorem dX11_had_9 : decode cX11_had 9 = .ok (.getfield 38, 3) := by decide +kernel
theorem dX11_had_12 : decode cX11_had 12 = .ok (.getfield 191, 3) := by decide +kernel
theorem dX11_had_15 : decode cX11_had 15 = .ok (.iload_n 1, 1) := by decide +kernel
theorem dX11_had_16 : decode cX11_had 16 = .ok (.iaload, 1) := by decide +kernel
theorem dX11_had_17 : decode cX11_had 17 = .ok (.goto 5, 3) := by decide +kernel
theorem dX11_had_20 : decode cX11_had 20 = .ok (.bipush (-2), 2) := by decide +kernel
theorem dX11_had_22 : decode cX11_had 22 = .ok (.ireturn, 1) := by decide +kernel
theorem dX11_most_0 : decode cX11_most 0 = .ok (.iload_n 1, 1) := by decide +kernel
theorem dX11_most_1 : decode cX11_most 1 = .ok (.iconst 1, 1) := by decide +kernel
theorem dX11_most_2 : decode cX11_most 2 = .ok (.bipush 99, 2) := by decide +kernel
theorem dX11_most_4 : decode cX11_most 4 = .ok (.invokestatic 166, 3) := by decide +kernel
theorem dX11_most_7 : decode cX11_most 7 = .ok (.ifCond .eq 22, 3) := by decide +kernel
theorem dX11_most_10 : decode cX11_most 10 = .ok (.aload_n 0, 1) := by decide +kernel
theorem dX11_most_11 : decode cX11_most 11 = .ok (.getfield 38, 3) := by decide +kernel
theorem dX11_most_14 : decode cX11_most 14 = .ok (.aload_n 0, 1) := by decide +kernel
theorem dX11_most_15 : decode cX11_most 15 = .ok (.getfield 19, 3) := by decide +kernel
theorem dX11_most_18 : decode cX11_most 18 = .ok (.aload_n 0, 1) := by decide +kernel
theorem dX11_most_19 : decode cX11_most 19 = .ok (.getfield 49, 3) := by decide +kernel
theorem dX11_most_22 : decode cX11_most 22 = .ok (.iload_n 1, 1) := by decide +kernel
theorem dX11_most_23 : decode cX11_most 23 = .ok (.invokevirtual 194, 3) := by decide +kernel
theorem dX11_most_26 : decode cX11_most 26 = .ok (.goto 5, 3) := by decide +kernel
theorem dX11_most_29 : decode cX11_most 29 = .ok (.bipush (-2), 2) := by decide +kernel
theorem dX11_most_31 : decode cX11_most 31 = .ok (.ireturn, 1) := by decide +kernel
theorem dX11_until_0 : decode cX11_until 0 = .ok (.aload_n 0, 1) := by decide +kernel
theorem dX11_until_1 : decode cX11_until 1 = .ok (.getfield 38, 3) := by decide +kernel
theorem dX11_until_4 : decode cX11_until 4 = .ok (.aload_n 0, 1) := by decide +kernel
theorem dX11_until_5 : decode cX11_until 5 = .ok (.getfield 19, 3) := by decide +kernel
theorem dX11_until_8 : decode cX11_until 8 = .ok (.aload_n 0, 1) := by decide +kernel
theorem dX11_until_9 : decode cX11_until 9 = .ok (.getfield 49, 3) := by decide +kernel
theorem dX11_until_12 : decode cX11_until 12 = .ok (.invokevirtual 198, 3) := by decide +kernel
theorem dX11_until_15 : decode cX11_until 15 = .ok (.ireturn, 1) := by decide +kernel
theorem dX11_keep_0 : decode cX11_keep 0 = .ok (.iload_n 1, 1) := by decide +kernel
theorem dX11_keep_1 : decode cX11_keep 1 = .ok (.iconst 0, 1) := by decide +kernel
theorem dX11_keep_2 : decode cX11_keep 2 = .ok (.iconst 1, 1) := by decide +kernel
theorem dX11_keep_3 : decode cX11_keep 3 = .ok (.invokestatic 166, 3) := by decide +kernel
theorem dX11_keep_6 : decode cX11_keep 6 = .ok (.ifCond .ne 6, 3) := by decide +kernel
theorem dX11_keep_9 : decode cX11_keep 9 = .ok (.bipush (-2), 2) := by decide +kernel
theorem dX11_keep_11 : decode cX11_keep 11 = .ok (.ireturn, 1) := by decide +kernel
theorem dX11_keep_12 : decode cX11_keep 12 = .ok (.aload_n 0, 1) := by decide +kernel
theorem dX11_keep_13 : decode cX11_keep 13 = .ok (.getfield 42, 3) := by decide +kernel
theorem dX11_keep_16 : decode cX11_keep 16 = .ok (.iload_n 1, 1) := by decide +kernel
theorem dX11_keep_17 : decode cX11_keep 17 = .ok (.aaload, 1) := by decide +kernel
theorem dX11_keep_18 : decode cX11_keep 18 = .ok (.aload_n 0, 1) := by decide +kernel
theorem dX11_keep_19 : decode cX11_keep 19 = .ok (.getfield 38, 3) := by decide +kernel
theorem dX11_keep_22 : decode cX11_keep 22 = .ok (.invokevirtual 202, 3) := by decide +kernel
theorem dX11_keep_25 : decode cX11_keep 25 = .ok (.aload_n 0, 1) := by decide +kernel
theorem dX11_keep_26 : decode cX11_keep 26 = .ok (.getfield 42, 3) := by decide +kernel
theorem dX11_keep_29 : decode cX11_keep 29 = .ok (.iload_n 1, 1) := by decide +kernel
theorem dX11_keep_30 : decode cX11_keep 30 = .ok (.aaload, 1) := by decide +kernel
theorem dX11_keep_31 : decode cX11_keep 31 = .ok (.iconst 1, 1) := by decide +kernel
theorem dX11_keep_32 : decode cX11_keep 32 = .ok (.putfield 103, 3) := by decide +kernel
theorem dX11_keep_35 : decode cX11_keep 35 = .ok (.aload_n 0, 1) := by decide +kernel
theorem dX11_keep_36 : decode cX11_keep 36 = .ok (.getfield 38, 3) := by decide +kernel
theorem dX11_keep_39 : decode cX11_keep 39 = .ok (.invokevirtual 206, 3) := by decide +kernel
theorem dX11_keep_42 : decode cX11_keep 42 = .ok (.ireturn, 1) := by decide +kernel
theorem dX11_take_0 : decode cX11_take 0 = .ok (.iload_n 1, 1) := by decide +kernel
theorem dX11_take_1 : decode cX11_take 1 = .ok (.iconst 0, 1) := by decide +kernel
theorem dX11_take_2 : decode cX11_take 2 = .ok (.iconst 1, 1) := by decide +kernel
theorem dX11_take_3 : decode cX11_take 3 = .ok (.invokestatic 166, 3) := by decide +kernel
theorem dX11_take_6 : decode cX11_take 6 = .ok (.ifCond .ne 6, 3) := by decide +kernel
theorem dX11_take_9 : decode cX11_take 9 = .ok (.bipush (-2), 2) := by decide +kernel
theorem dX11_take_11 : decode cX11_take 11 = .ok (.ireturn, 1) := by decide +kernel
theorem dX11_take_12 : decode cX11_take 12 = .ok (.aload_n 0, 1) := by decide +kernel
theorem dX11_take_13 : decode cX11_take 13 = .ok (.getfield 42, 3) := by decide +kernel
theorem dX11_take_16 : decode cX11_take 16 = .ok (.iload_n 1, 1) := by decide +kernel
theorem dX11_take_17 : decode cX11_take 17 = .ok (.aaload, 1) := by decide +kernel
theorem dX11_take_18 : decode cX11_take 18 = .ok (.getfield 103, 3) := by decide +kernel
theorem dX11_take_21 : decode cX11_take 21 = .ok (.ifCond .ne 6, 3) := by decide +kernel
theorem dX11_take_24 : decode cX11_take 24 = .ok (.bipush (-4), 2) := by decide +kernel
theorem dX11_take_26 : decode cX11_take 26 = .ok (.ireturn, 1) := by decide +kernel
theorem dX11_take_27 : decode cX11_take 27 = .ok (.aload_n 0, 1) := by decide +kernel
theorem dX11_take_28 : decode cX11_take 28 = .ok (.getfield 38, 3) := by decide +kernel
theorem dX11_take_31 : decode cX11_take 31 = .ok (.aload_n 0, 1) := by decide +kernel
theorem dX11_take_32 : decode cX11_take 32 = .ok (.getfield 42, 3) := by decide +kernel
theorem dX11_take_35 : decode cX11_take 35 = .ok (.iload_n 1, 1) := by decide +kernel
theorem dX11_take_36 : decode cX11_take 36 = .ok (.aaload, 1) := by decide +kernel
theorem dX11_take_37 : decode cX11_take 37 = .ok (.invokevirtual 202, 3) := by decide +kernel
theorem dX11_take_40 : decode cX11_take 40 = .ok (.aload_n 0, 1) := by decide +kernel
theorem dX11_take_41 : decode cX11_take 41 = .ok (.getfield 38, 3) := by decide +kernel
theorem dX11_take_44 : decode cX11_take 44 = .ok (.invokevirtual 206, 3) := by decide +kernel
theorem dX11_take_47 : decode cX11_take 47 = .ok (.ireturn, 1) := by decide +kernel
theorem dX11_gone_0 : decode cX11_gone 0 = .ok (.aload_n 0, 1) := by decide +kernel
theorem dX11_gone_1 : decode cX11_gone 1 = .ok (.iload_n 1, 1) := by decide +kernel
theorem dX11_gone_2 : decode cX11_gone 2 = .ok (.invokevirtual 140, 3) := by decide +kernel
theorem dX11_gone_5 : decode cX11_gone 5 = .ok (.ifCond .eq 20, 3) := by decide +kernel
theorem dX11_gone_8 : decode cX11_gone 8 = .ok (.iload_n 2, 1) := by decide +kernel
theorem dX11_gone_9 : decode cX11_gone 9 = .ok (.iconst 0, 1) := by decide +kernel
theorem dX11_gone_10 : decode cX11_gone 10 = .ok (.aload_n 0, 1) := by decide +kernel
theorem dX11_gone_11 : decode cX11_gone 11 = .ok (.getfield 19, 3) := by decide +kernel
theorem dX11_gone_14 : decode cX11_gone 14 = .ok (.getfield 210, 3) := by decide +kernel
theorem dX11_gone_17 : decode cX11_gone 17 = .ok (.iload_n 1, 1) := by decide +kernel
theorem dX11_gone_18 : decode cX11_gone 18 = .ok (.iaload, 1) := by decide +kernel
theorem dX11_gone_19 : decode cX11_gone 19 = .ok (.invokestatic 166, 3) := by decide +kernel
theorem dX11_gone_22 : decode cX11_gone 22 = .ok (.ifCond .ne 6, 3) := by decide +kernel
theorem dX11_gone_25 : decode cX11_gone 25 = .ok (.bipush (-2), 2) := by decide +kernel
theorem dX11_gone_27 : decode cX11_gone 27 = .ok (.ireturn, 1) := by decide +kernel
theorem dX11_gone_28 : decode cX11_gone 28 = .ok (.aload_n 0, 1) := by decide +kernel
theorem dX11_gone_29 : decode cX11_gone 29 = .ok (.getfield 56, 3) := by decide +kernel
theorem dX11_gone_32 : decode cX11_gone 32 = .ok (.getfield 213, 3) := by decide +kernel
theorem dX11_gone_35 : decode cX11_gone 35 = .ok (.iload_n 1, 1) := by decide +kernel
theorem dX11_gone_36 : decode cX11_gone 36 = .ok (.iaload, 1) := by decide +kernel
theorem dX11_gone_37 : decode cX11_gone 37 = .ok (.istore_n 3, 1) := by decide +kernel
theorem dX11_gone_38 : decode cX11_gone 38 = .ok (.aload_n 0, 1) := by decide +kernel
theorem dX11_gone_39 : decode cX11_gone 39 = .ok (.getfield 56, 3) := by decide +kernel
theorem dX11_gone_42 : decode cX11_gone 42 = .ok (.getfield 213, 3) := by decide +kernel
theorem dX11_gone_45 : decode cX11_gone 45 = .ok (.iload_n 1, 1) := by decide +kernel
theorem dX11_gone_46 : decode cX11_gone 46 = .ok (.iload_n 2, 1) := by decide +kernel
theorem dX11_gone_47 : decode cX11_gone 47 = .ok (.iastore, 1) := by decide +kernel
theorem dX11_gone_48 : decode cX11_gone 48 = .ok (.iload_n 3, 1) := by decide +kernel
theorem dX11_gone_49 : decode cX11_gone 49 = .ok (.ireturn, 1) := by decide +kernel
theorem dX11_runners_0 : decode cX11_runners 0 = .ok (.aload_n 0, 1) := by decide +kernel
theorem dX11_runners_1 : decode cX11_runners 1 = .ok (.getfield 56, 3) := by decide +kernel
theorem dX11_runners_4 : decode cX11_runners 4 = .ok (.aload_n 0, 1) := by decide +kernel
theorem dX11_runners_5 : decode cX11_runners 5 = .ok (.getfield 19, 3) := by decide +kernel
theorem dX11_runners_8 : decode cX11_runners 8 = .ok (.aload_n 0, 1) := by decide +kernel
theorem dX11_runners_9 : decode cX11_runners 9 = .ok (.getfield 49, 3) := by decide +kernel
theorem dX11_runners_12 : decode cX11_runners 12 = .ok (.invokevirtual 216, 3) := by decide +kernel
theorem dX11_runners_15 : decode cX11_runners 15 = .ok (.ireturn, 1) := by decide +kernel
theorem dX11_wrong_0 : decode cX11_wrong 0 = .ok (.aload_n 0, 1) := by decide +kernel
theorem dX11_wrong_1 : decode cX11_wrong 1 = .ok (.getfield 56, 3) := by decide +kernel
theorem dX11_wrong_4 : decode cX11_wrong 4 = .ok (.aload_n 0, 1) := by decide +kernel
theorem dX11_wrong_5 : decode cX11_wrong 5 = .ok (.getfield 19, 3) := by decide +kernel
theorem dX11_wrong_8 : decode cX11_wrong 8 = .ok (.aload_n 0, 1) := by decide +kernel
theorem dX11_wrong_9 : decode cX11_wrong 9 = .ok (.getfield 49, 3) := by decide +kernel
theorem dX11_wrong_12 : decode cX11_wrong 12 = .ok (.invokevirtual 219, 3) := by decide +kernel
theorem dX11_wrong_15 : decode cX11_wrong 15 = .ok (.ireturn, 1) := by decide +kernel
theorem dX11_kept_0 : decode cX11_kept 0 = .ok (.aload_n 0, 1) := by decide +kernel
theorem dX11_kept_1 : decode cX11_kept 1 = .ok (.iload_n 1, 1) := by decide +kernel
theorem dX11_kept_2 : decode cX11_kept 2 = .ok (.invokevirtual 222, 3) := by decide +kernel
theorem dX11_kept_5 : decode cX11_kept 5 = .ok (.ifCond .eq 14, 3) := by decide +kernel
theorem dX11_kept_8 : decode cX11_kept 8 = .ok (.iload_n 2, 1) := by decide +kernel
theorem dX11_kept_9 : decode cX11_kept 9 = .ok (.iconst 0, 1) := by decide +kernel
theorem dX11_kept_10 : decode cX11_kept 10 = .ok (.sipush 400, 3) := by decide +kernel
theorem dX11_kept_13 : decode cX11_kept 13 = .ok (.invokestatic 166, 3) := by decide +kernel
theorem dX11_kept_16 : decode cX11_kept 16 = .ok (.ifCond .ne 6, 3) := by decide +kernel
theorem dX11_kept_19 : decode cX11_kept 19 = .ok (.bipush (-2), 2) := by decide +kernel
theorem dX11_kept_21 : decode cX11_kept 21 = .ok (.ireturn, 1) := by decide +kernel
theorem dX11_kept_22 : decode cX11_kept 22 = .ok (.aload_n 0, 1) := by decide +kernel
theorem dX11_kept_23 : decode cX11_kept 23 = .ok (.getfield 63, 3) := by decide +kernel
theorem dX11_kept_26 : decode cX11_kept 26 = .ok (.aload_n 0, 1) := by decide +kernel
theorem dX11_kept_27 : decode cX11_kept 27 = .ok (.getfield 19, 3) := by decide +kernel
theorem dX11_kept_30 : decode cX11_kept 30 = .ok (.iload_n 1, 1) := by decide +kernel
theorem dX11_kept_31 : decode cX11_kept 31 = .ok (.invokevirtual 225, 3) := by decide +kernel
theorem dX11_kept_34 : decode cX11_kept 34 = .ok (.aload_n 0, 1) := by decide +kernel
theorem dX11_kept_35 : decode cX11_kept 35 = .ok (.getfield 63, 3) := by decide +kernel
theorem dX11_kept_38 : decode cX11_kept 38 = .ok (.getfield 229, 3) := by decide +kernel
theorem dX11_kept_41 : decode cX11_kept 41 = .ok (.iload_n 2, 1) := by decide +kernel
theorem dX11_kept_42 : decode cX11_kept 42 = .ok (.iaload, 1) := by decide +kernel
theorem dX11_kept_43 : decode cX11_kept 43 = .ok (.ireturn, 1) := by decide +kernel
theorem dX11_needed_0 : decode cX11_needed 0 = .ok (.iload_n 1, 1) := by decide +kernel
theorem dX11_needed_1 : decode cX11_needed 1 = .ok (.iconst 1, 1) := by decide +kernel
theorem dX11_needed_2 : decode cX11_needed 2 = .ok (.sipush 999, 3) := by decide +kernel
theorem dX11_needed_5 : decode cX11_needed 5 = .ok (.invokestatic 166, 3) := by decide +kernel
theorem dX11_needed_8 : decode cX11_needed 8 = .ok (.ifCond .eq 14, 3) := by decide +kernel
theorem dX11_needed_11 : decode cX11_needed 11 = .ok (.iload_n 2, 1) := by decide +kernel
theorem dX11_needed_12 : decode cX11_needed 12 = .ok (.iconst 0, 1) := by decide +kernel
theorem dX11_needed_13 : decode cX11_needed 13 = .ok (.sipush 200, 3) := by decide +kernel
theorem dX11_needed_16 : decode cX11_needed 16 = .ok (.invokestatic 166, 3) := by decide +kernel
theorem dX11_needed_19 : decode cX11_needed 19 = .ok (.ifCond .ne 6, 3) := by decide +kernel
theorem dX11_needed_22 : decode cX11_needed 22 = .ok (.bipush (-2), 2) := by decide +kernel
theorem dX11_needed_24 : decode cX11_needed 24 = .ok (.ireturn, 1) := by decide +kernel
theorem dX11_needed_25 : decode cX11_needed 25 = .ok (.aload_n 0, 1) := by decide +kernel
theorem dX11_needed_26 : decode cX11_needed 26 = .ok (.getfield 19, 3) := by decide +kernel
theorem dX11_needed_29 : decode cX11_needed 29 = .ok (.iload_n 1, 1) := by decide +kernel
theorem dX11_needed_30 : decode cX11_needed 30 = .ok (.iload_n 2, 1) := by decide +kernel
theorem dX11_needed_31 : decode cX11_needed 31 = .ok (.invokevirtual 232, 3) := by decide +kernel
theorem dX11_needed_34 : decode cX11_needed 34 = .ok (.ireturn, 1) := by decide +kernel
theorem dX11_second_0 : decode cX11_second 0 = .ok (.iload_n 1, 1) := by decide +kernel
theorem dX11_second_1 : decode cX11_second 1 = .ok (.iconst 1, 1) := by decide +kernel
theorem dX11_second_2 : decode cX11_second 2 = .ok (.sipush 200, 3) := by decide +kernel
theorem dX11_second_5 : decode cX11_second 5 = .ok (.invokestatic 166, 3) := by decide +kernel
theorem dX11_second_8 : decode cX11_second 8 = .ok (.ifCond .eq 32, 3) := by decide +kernel
theorem dX11_second_11 : decode cX11_second 11 = .ok (.iload_n 2, 1) := by decide +kernel
theorem dX11_second_12 : decode cX11_second 12 = .ok (.iconst 1, 1) := by decide +kernel
theorem dX11_second_13 : decode cX11_second 13 = .ok (.sipush 999, 3) := by decide +kernel
theorem dX11_second_16 : decode cX11_second 16 = .ok (.invokestatic 166, 3) := by decide +kernel
theorem dX11_second_19 : decode cX11_second 19 = .ok (.ifCond .eq 21, 3) := by decide +kernel
theorem dX11_second_22 : decode cX11_second 22 = .ok (.aload_n 0, 1) := by decide +kernel
theorem dX11_second_23 : decode cX11_second 23 = .ok (.iload_n 3, 1) := by decide +kernel
theorem dX11_second_24 : decode cX11_second 24 = .ok (.invokevirtual 222, 3) := by decide +kernel
theorem dX11_second_27 : decode cX11_second 27 = .ok (.ifCond .eq 13, 3) := by decide +kernel
theorem dX11_second_30 : decode cX11_second 30 = .ok (.iload 4, 2) := by decide +kernel
theorem dX11_second_32 : decode cX11_second 32 = .ok (.iconst 0, 1) := by decide +kernel
theorem dX11_second_33 : decode cX11_second 33 = .ok (.iconst 1, 1) := by decide +kernel
theorem dX11_second_34 : decode cX11_second 34 = .ok (.invokestatic 166, 3) := by decide +kernel
theorem dX11_second_37 : decode cX11_second 37 = .ok (.ifCond .ne 6, 3) := by decide +kernel
theorem dX11_second_40 : decode cX11_second 40 = .ok (.bipush (-2), 2) := by decide +kernel
theorem dX11_second_42 : decode cX11_second 42 = .ok (.ireturn, 1) := by decide +kernel
theorem dX11_second_43 : decode cX11_second 43 = .ok (.aload_n 0, 1) := by decide +kernel
theorem dX11_second_44 : decode cX11_second 44 = .ok (.getfield 63, 3) := by decide +kernel
theorem dX11_second_47 : decode cX11_second 47 = .ok (.aload_n 0, 1) := by decide +kernel
theorem dX11_second_48 : decode cX11_second 48 = .ok (.getfield 19, 3) := by decide +kernel
theorem dX11_second_51 : decode cX11_second 51 = .ok (.iload_n 3, 1) := by decide +kernel
theorem dX11_second_52 : decode cX11_second 52 = .ok (.invokevirtual 225, 3) := by decide +kernel
theorem dX11_second_55 : decode cX11_second 55 = .ok (.aload_n 0, 1) := by decide +kernel
theorem dX11_second_56 : decode cX11_second 56 = .ok (.getfield 63, 3) := by decide +kernel
theorem dX11_second_59 : decode cX11_second 59 = .ok (.aload_n 0, 1) := by decide +kernel
theorem dX11_second_60 : decode cX11_second 60 = .ok (.getfield 19, 3) := by decide +kernel
theorem dX11_second_63 : decode cX11_second 63 = .ok (.iload_n 1, 1) := by decide +kernel
theorem dX11_second_64 : decode cX11_second 64 = .ok (.iload_n 2, 1) := by decide +kernel
theorem dX11_second_65 : decode cX11_second 65 = .ok (.invokevirtual 235, 3) := by decide +kernel
theorem dX11_second_68 : decode cX11_second 68 = .ok (.iload 4, 2) := by decide +kernel
theorem dX11_second_70 : decode cX11_second 70 = .ok (.ifCond .ne 13, 3) := by decide +kernel
theorem dX11_second_73 : decode cX11_second 73 = .ok (.aload_n 0, 1) := by decide +kernel
theorem dX11_second_74 : decode cX11_second 74 = .ok (.getfield 63, 3) := by decide +kernel
theorem dX11_second_77 : decode cX11_second 77 = .ok (.getfield 239, 3) := by decide +kernel
theorem dX11_second_80 : decode cX11_second 80 = .ok (.goto 10, 3) := by decide +kernel
theorem dX11_second_83 : decode cX11_second 83 = .ok (.aload_n 0, 1) := by decide +kernel
theorem dX11_second_84 : decode cX11_second 84 = .ok (.getfield 63, 3) := by decide +kernel
theorem dX11_second_87 : decode cX11_second 87 = .ok (.getfield 242, 3) := by decide +kernel
theorem dX11_second_90 : decode cX11_second 90 = .ok (.ireturn, 1) := by decide +kernel
theorem dX11_drift_0 : decode cX11_drift 0 = .ok (.iload_n 1, 1) := by decide +kernel
theorem dX11_drift_1 : decode cX11_drift 1 = .ok (.iconst 0, 1) := by decide +kernel
theorem dX11_drift_2 : decode cX11_drift 2 = .ok (.bipush 20, 2) := by decide +kernel
theorem dX11_drift_4 : decode cX11_drift 4 = .ok (.invokestatic 166, 3) := by decide +kernel
theorem dX11_drift_7 : decode cX11_drift 7 = .ok (.ifCond .ne 6, 3) := by decide +kernel
theorem dX11_drift_10 : decode cX11_drift 10 = .ok (.bipush (-2), 2) := by decide +kernel
theorem dX11_drift_12 : decode cX11_drift 12 = .ok (.ireturn, 1) := by decide +kernel
theorem dX11_drift_13 : decode cX11_drift 13 = .ok (.aload_n 0, 1) := by decide +kernel
theorem dX11_drift_14 : decode cX11_drift 14 = .ok (.getfield 70, 3) := by decide +kernel
theorem dX11_drift_17 : decode cX11_drift 17 = .ok (.getfield 245, 3) := by decide +kernel
theorem dX11_drift_20 : decode cX11_drift 20 = .ok (.istore_n 2, 1) := by decide +kernel
theorem dX11_drift_21 : decode cX11_drift 21 = .ok (.aload_n 0, 1) := by decide +kernel
theorem dX11_drift_22 : decode cX11_drift 22 = .ok (.getfield 70, 3) := by decide +kernel
theorem dX11_drift_25 : decode cX11_drift 25 = .ok (.iload_n 1, 1) := by decide +kernel
theorem dX11_drift_26 : decode cX11_drift 26 = .ok (.putfield 245, 3) := by decide +kernel
theorem dX11_drift_29 : decode cX11_drift 29 = .ok (.iload_n 2, 1) := by decide +kernel
theorem dX11_drift_30 : decode cX11_drift 30 = .ok (.ireturn, 1) := by decide +kernel
theorem dX11_string_0 : decode cX11_string 0 = .ok (.aload_n 0, 1) := by decide +kernel
theorem dX11_string_1 : decode cX11_string 1 = .ok (.getfield 70, 3) := by decide +kernel
theorem dX11_string_4 : decode cX11_string 4 = .ok (.iload_n 1, 1) := by decide +kernel
theorem dX11_string_5 : decode cX11_string 5 = .ok (.invokevirtual 248, 3) := by decide +kernel
theorem dX11_string_8 : decode cX11_string 8 = .ok (.ifCond .eq 34, 3) := by decide +kernel
theorem dX11_string_11 : decode cX11_string 11 = .ok (.iload_n 2, 1) := by decide +kernel
theorem dX11_string_12 : decode cX11_string 12 = .ok (.iconst 1, 1) := by decide +kernel
theorem dX11_string_13 : decode cX11_string 13 = .ok (.bipush 99, 2) := by decide +kernel
theorem dX11_string_15 : decode cX11_string 15 = .ok (.invokestatic 166, 3) := by decide +kernel
theorem dX11_string_18 : decode cX11_string 18 = .ok (.ifCond .eq 24, 3) := by decide +kernel
theorem dX11_string_21 : decode cX11_string 21 = .ok (.iload_n 3, 1) := by decide +kernel
theorem dX11_string_22 : decode cX11_string 22 = .ok (.iconst 0, 1) := by decide +kernel
theorem dX11_string_23 : decode cX11_string 23 = .ok (.bipush 7, 2) := by decide +kernel
theorem dX11_string_25 : decode cX11_string 25 = .ok (.invokestatic 166, 3) := by decide +kernel
theorem dX11_string_28 : decode cX11_string 28 = .ok (.ifCond .eq 14, 3) := by decide +kernel
theorem dX11_string_31 : decode cX11_string 31 = .ok (.iload 4, 2) := by decide +kernel
theorem dX11_string_33 : decode cX11_string 33 = .ok (.iconst 0, 1) := by decide +kernel
theorem dX11_string_34 : decode cX11_string 34 = .ok (.bipush 9, 2) := by decide +kernel
theorem dX11_string_36 : decode cX11_string 36 = .ok (.invokestatic 166, 3) := by decide +kernel
theorem dX11_string_39 : decode cX11_string 39 = .ok (.ifCond .ne 6, 3) := by decide +kernel
theorem dX11_string_42 : decode cX11_string 42 = .ok (.bipush (-2), 2) := by decide +kernel
theorem dX11_string_44 : decode cX11_string 44 = .ok (.ireturn, 1) := by decide +kernel
theorem dX11_string_45 : decode cX11_string 45 = .ok (.aload_n 0, 1) := by decide +kernel
theorem dX11_string_46 : decode cX11_string 46 = .ok (.getfield 70, 3) := by decide +kernel
theorem dX11_string_49 : decode cX11_string 49 = .ok (.iload_n 1, 1) := by decide +kernel
theorem dX11_string_50 : decode cX11_string 50 = .ok (.iload_n 2, 1) := by decide +kernel
theorem dX11_string_51 : decode cX11_string 51 = .ok (.iload_n 3, 1) := by decide +kernel
theorem dX11_string_52 : decode cX11_string 52 = .ok (.iload 4, 2) := by decide +kernel
theorem dX11_string_54 : decode cX11_string 54 = .ok (.invokevirtual 251, 3) := by decide +kernel
theorem dX11_string_57 : decode cX11_string 57 = .ok (.ireturn, 1) := by decide +kernel
theorem dX11_right_0 : decode cX11_right 0 = .ok (.aload_n 0, 1) := by decide +kernel
theorem dX11_right_1 : decode cX11_right 1 = .ok (.getfield 70, 3) := by decide +kernel
theorem dX11_right_4 : decode cX11_right 4 = .ok (.iload_n 1, 1) := by decide +kernel
theorem dX11_right_5 : decode cX11_right 5 = .ok (.invokevirtual 248, 3) := by decide +kernel
theorem dX11_right_8 : decode cX11_right 8 = .ok (.ifCond .eq 30, 3) := by decide +kernel
theorem dX11_right_11 : decode cX11_right 11 = .ok (.iload_n 2, 1) := by decide +kernel
theorem dX11_right_12 : decode cX11_right 12 = .ok (.iconst 0, 1) := by decide +kernel
theorem dX11_right_13 : decode cX11_right 13 = .ok (.aload_n 0, 1) := by decide +kernel
theorem dX11_right_14 : decode cX11_right 14 = .ok (.getfield 70, 3) := by decide +kernel
theorem dX11_right_17 : decode cX11_right 17 = .ok (.getfield 255, 3) := by decide +kernel
theorem dX11_right_20 : decode cX11_right 20 = .ok (.iconst 1, 1) := by decide +kernel
theorem dX11_right_21 : decode cX11_right 21 = .ok (.isub, 1) := by decide +kernel
theorem dX11_right_22 : decode cX11_right 22 = .ok (.invokestatic 166, 3) := by decide +kernel
theorem dX11_right_25 : decode cX11_right 25 = .ok (.ifCond .eq 13, 3) := by decide +kernel
theorem dX11_right_28 : decode cX11_right 28 = .ok (.iload_n 3, 1) := by decide +kernel
theorem dX11_right_29 : decode cX11_right 29 = .ok (.iconst 1, 1) := by decide +kernel
theorem dX11_right_30 : decode cX11_right 30 = .ok (.bipush 99, 2) := by decide +kernel
theorem dX11_right_32 : decode cX11_right 32 = .ok (.invokestatic 166, 3) := by decide +kernel
theorem dX11_right_35 : decode cX11_right 35 = .ok (.ifCond .ne 6, 3) := by decide +kernel
theorem dX11_right_38 : decode cX11_right 38 = .ok (.bipush (-2), 2) := by decide +kernel
theorem dX11_right_40 : decode cX11_right 40 = .ok (.ireturn, 1) := by decide +kernel
theorem dX11_right_41 : decode cX11_right 41 = .ok (.aload_n 0, 1) := by decide +kernel
theorem dX11_right_42 : decode cX11_right 42 = .ok (.getfield 70, 3) := by decide +kernel
theorem dX11_right_45 : decode cX11_right 45 = .ok (.iload_n 1, 1) := by decide +kernel
theorem dX11_right_46 : decode cX11_right 46 = .ok (.iload_n 2, 1) := by decide +kernel
theorem dX11_right_47 : decode cX11_right 47 = .ok (.iload_n 3, 1) := by decide +kernel
theorem dX11_right_48 : decode cX11_right 48 = .ok (.invokevirtual 258, 3) := by decide +kernel
theorem dX11_right_51 : decode cX11_right 51 = .ok (.ireturn, 1) := by decide +kernel
theorem dX11_where_0 : decode cX11_where 0 = .ok (.iload_n 1, 1) := by decide +kernel
theorem dX11_where_1 : decode cX11_where 1 = .ok (.invokestatic 262, 3) := by decide +kernel
theorem dX11_where_4 : decode cX11_where 4 = .ok (.ifCond .eq 12, 3) := by decide +kernel
theorem dX11_where_7 : decode cX11_where 7 = .ok (.iload_n 2, 1) := by decide +kernel
theorem dX11_where_8 : decode cX11_where 8 = .ok (.iconst 0, 1) := by decide +kernel
theorem dX11_where_9 : decode cX11_where 9 = .ok (.iconst 2, 1) := by decide +kernel
theorem dX11_where_10 : decode cX11_where 10 = .ok (.invokestatic 166, 3) := by decide +kernel
theorem dX11_where_13 : decode cX11_where 13 = .ok (.ifCond .ne 7, 3) := by decide +kernel
theorem dX11_where_16 : decode cX11_where 16 = .ok (.ldc_w 265, 3) := by decide +kernel
theorem dX11_where_19 : decode cX11_where 19 = .ok (.ireturn, 1) := by decide +kernel
theorem dX11_where_20 : decode cX11_where 20 = .ok (.iload_n 2, 1) := by decide +kernel
theorem dX11_where_21 : decode cX11_where 21 = .ok (.iconst 2, 1) := by decide +kernel
theorem dX11_where_22 : decode cX11_where 22 = .ok (.if_icmp .ne 12, 3) := by decide +kernel
theorem dX11_where_25 : decode cX11_where 25 = .ok (.aload_n 0, 1) := by decide +kernel
theorem dX11_where_26 : decode cX11_where 26 = .ok (.getfield 70, 3) := by decide +kernel
theorem dX11_where_29 : decode cX11_where 29 = .ok (.iload_n 1, 1) := by decide +kernel
theorem dX11_where_30 : decode cX11_where 30 = .ok (.invokevirtual 266, 3) := by decide +kernel
theorem dX11_where_33 : decode cX11_where 33 = .ok (.ireturn, 1) := by decide +kernel
theorem dX11_where_34 : decode cX11_where 34 = .ok (.iload_n 2, 1) := by decide +kernel
theorem dX11_where_35 : decode cX11_where 35 = .ok (.ifCond .ne 14, 3) := by decide +kernel
theorem dX11_where_38 : decode cX11_where 38 = .ok (.aload_n 0, 1) := by decide +kernel
theorem dX11_where_39 : decode cX11_where 39 = .ok (.getfield 70, 3) := by decide +kernel
theorem dX11_where_42 : decode cX11_where 42 = .ok (.iload_n 1, 1) := by decide +kernel
theorem dX11_where_43 : decode cX11_where 43 = .ok (.invokevirtual 269, 3) := by decide +kernel
theorem dX11_where_46 : decode cX11_where 46 = .ok (.goto 11, 3) := by decide +kernel
theorem dX11_where_49 : decode cX11_where 49 = .ok (.aload_n 0, 1) := by decide +kernel
theorem dX11_where_50 : decode cX11_where 50 = .ok (.getfield 70, 3) := by decide +kernel
theorem dX11_where_53 : decode cX11_where 53 = .ok (.iload_n 1, 1) := by decide +kernel
theorem dX11_where_54 : decode cX11_where 54 = .ok (.invokevirtual 272, 3) := by decide +kernel
theorem dX11_where_57 : decode cX11_where 57 = .ok (.ireturn, 1) := by decide +kernel
theorem dX11_up_0 : decode cX11_up 0 = .ok (.aload_n 0, 1) := by decide +kernel
theorem dX11_up_1 : decode cX11_up 1 = .ok (.iload_n 1, 1) := by decide +kernel
theorem dX11_up_2 : decode cX11_up 2 = .ok (.invokevirtual 140, 3) := by decide +kernel
theorem dX11_up_5 : decode cX11_up 5 = .ok (.ifCond .eq 10, 3) := by decide +kernel
theorem dX11_up_8 : decode cX11_up 8 = .ok (.iload_n 2, 1) := by decide +kernel
theorem dX11_up_9 : decode cX11_up 9 = .ok (.invokestatic 262, 3) := by decide +kernel
theorem dX11_up_12 : decode cX11_up 12 = .ok (.ifCond .ne 6, 3) := by decide +kernel
theorem dX11_up_15 : decode cX11_up 15 = .ok (.bipush (-2), 2) := by decide +kernel
theorem dX11_up_17 : decode cX11_up 17 = .ok (.ireturn, 1) := by decide +kernel
theorem dX11_up_18 : decode cX11_up 18 = .ok (.aload_n 0, 1) := by decide +kernel
theorem dX11_up_19 : decode cX11_up 19 = .ok (.getfield 70, 3) := by decide +kernel
theorem dX11_up_22 : decode cX11_up 22 = .ok (.aload_n 0, 1) := by decide +kernel
theorem dX11_up_23 : decode cX11_up 23 = .ok (.getfield 19, 3) := by decide +kernel
theorem dX11_up_26 : decode cX11_up 26 = .ok (.iload_n 1, 1) := by decide +kernel
theorem dX11_up_27 : decode cX11_up 27 = .ok (.iload_n 2, 1) := by decide +kernel
theorem dX11_up_28 : decode cX11_up 28 = .ok (.invokevirtual 275, 3) := by decide +kernel
theorem dX11_up_31 : decode cX11_up 31 = .ok (.ireturn, 1) := by decide +kernel
theorem dX11_join_0 : decode cX11_join 0 = .ok (.iload_n 1, 1) := by decide +kernel
theorem dX11_join_1 : decode cX11_join 1 = .ok (.iconst 1, 1) := by decide +kernel
theorem dX11_join_2 : decode cX11_join 2 = .ok (.bipush 20, 2) := by decide +kernel
theorem dX11_join_4 : decode cX11_join 4 = .ok (.invokestatic 166, 3) := by decide +kernel
theorem dX11_join_7 : decode cX11_join 7 = .ok (.ifCond .eq 12, 3) := by decide +kernel
theorem dX11_join_10 : decode cX11_join 10 = .ok (.iload_n 2, 1) := by decide +kernel
theorem dX11_join_11 : decode cX11_join 11 = .ok (.iconst 0, 1) := by decide +kernel
theorem dX11_join_12 : decode cX11_join 12 = .ok (.iconst 1, 1) := by decide +kernel
theorem dX11_join_13 : decode cX11_join 13 = .ok (.invokestatic 166, 3) := by decide +kernel
theorem dX11_join_16 : decode cX11_join 16 = .ok (.ifCond .ne 6, 3) := by decide +kernel
theorem dX11_join_19 : decode cX11_join 19 = .ok (.bipush (-2), 2) := by decide +kernel
theorem dX11_join_21 : decode cX11_join 21 = .ok (.ireturn, 1) := by decide +kernel
theorem dX11_join_22 : decode cX11_join 22 = .ok (.aload_n 0, 1) := by decide +kernel
theorem dX11_join_23 : decode cX11_join 23 = .ok (.getfield 77, 3) := by decide +kernel
theorem dX11_join_26 : decode cX11_join 26 = .ok (.iload_n 1, 1) := by decide +kernel
theorem dX11_join_27 : decode cX11_join 27 = .ok (.iconst 3, 1) := by decide +kernel
theorem dX11_join_28 : decode cX11_join 28 = .ok (.iload_n 2, 1) := by decide +kernel
theorem dX11_join_29 : decode cX11_join 29 = .ok (.imul, 1) := by decide +kernel
theorem dX11_join_30 : decode cX11_join 30 = .ok (.iadd, 1) := by decide +kernel
theorem dX11_join_31 : decode cX11_join 31 = .ok (.invokevirtual 278, 3) := by decide +kernel
theorem dX11_join_34 : decode cX11_join 34 = .ok (.ireturn, 1) := by decide +kernel
theorem dX11_round_0 : decode cX11_round 0 = .ok (.iload_n 1, 1) := by decide +kernel
theorem dX11_round_1 : decode cX11_round 1 = .ok (.ifCond .lt 27, 3) := by decide +kernel
theorem dX11_round_4 : decode cX11_round 4 = .ok (.iload_n 2, 1) := by decide +kernel
theorem dX11_round_5 : decode cX11_round 5 = .ok (.iload_n 1, 1) := by decide +kernel
theorem dX11_round_6 : decode cX11_round 6 = .ok (.if_icmp .le 22, 3) := by decide +kernel
theorem dX11_round_9 : decode cX11_round 9 = .ok (.iload_n 2, 1) := by decide +kernel
theorem dX11_round_10 : decode cX11_round 10 = .ok (.sipush 600, 3) := by decide +kernel
theorem dX11_round_13 : decode cX11_round 13 = .ok (.if_icmp .gt 15, 3) := by decide +kernel
theorem dX11_round_16 : decode cX11_round 16 = .ok (.aload_n 0, 1) := by decide +kernel
theorem dX11_round_17 : decode cX11_round 17 = .ok (.getfield 77, 3) := by decide +kernel
theorem dX11_round_20 : decode cX11_round 20 = .ok (.iload_n 1, 1) := by decide +kernel
theorem dX11_round_21 : decode cX11_round 21 = .ok (.iload_n 2, 1) := by decide +kernel
theorem dX11_round_22 : decode cX11_round 22 = .ok (.invokevirtual 281, 3) := by decide +kernel
theorem dX11_round_25 : decode cX11_round 25 = .ok (.ifCond .eq 6, 3) := by decide +kernel
theorem dX11_round_28 : decode cX11_round 28 = .ok (.bipush (-2), 2) := by decide +kernel
theorem dX11_round_30 : decode cX11_round 30 = .ok (.ireturn, 1) := by decide +kernel
theorem dX11_round_31 : decode cX11_round 31 = .ok (.aload_n 0, 1) := by decide +kernel
theorem dX11_round_32 : decode cX11_round 32 = .ok (.getfield 77, 3) := by decide +kernel
theorem dX11_round_35 : decode cX11_round 35 = .ok (.iload_n 1, 1) := by decide +kernel
theorem dX11_round_36 : decode cX11_round 36 = .ok (.iload_n 2, 1) := by decide +kernel
theorem dX11_round_37 : decode cX11_round 37 = .ok (.invokevirtual 285, 3) := by decide +kernel
theorem dX11_round_40 : decode cX11_round 40 = .ok (.ireturn, 1) := by decide +kernel
theorem dX11_morning_0 : decode cX11_morning 0 = .ok (.aload_n 0, 1) := by decide +kernel
theorem dX11_morning_1 : decode cX11_morning 1 = .ok (.getfield 77, 3) := by decide +kernel
theorem dX11_morning_4 : decode cX11_morning 4 = .ok (.getfield 288, 3) := by decide +kernel
theorem dX11_morning_7 : decode cX11_morning 7 = .ok (.istore_n 1, 1) := by decide +kernel
theorem dX11_morning_8 : decode cX11_morning 8 = .ok (.aload_n 0, 1) := by decide +kernel
theorem dX11_morning_9 : decode cX11_morning 9 = .ok (.getfield 77, 3) := by decide +kernel
theorem dX11_morning_12 : decode cX11_morning 12 = .ok (.iconst 0, 1) := by decide +kernel
theorem dX11_morning_13 : decode cX11_morning 13 = .ok (.putfield 288, 3) := by decide +kernel
theorem dX11_morning_16 : decode cX11_morning 16 = .ok (.aload_n 0, 1) := by decide +kernel
theorem dX11_morning_17 : decode cX11_morning 17 = .ok (.getfield 77, 3) := by decide +kernel
theorem dX11_morning_20 : decode cX11_morning 20 = .ok (.iconst 0, 1) := by decide +kernel
theorem dX11_morning_21 : decode cX11_morning 21 = .ok (.putfield 291, 3) := by decide +kernel
theorem dX11_morning_24 : decode cX11_morning 24 = .ok (.aload_n 0, 1) := by decide +kernel
theorem dX11_morning_25 : decode cX11_morning 25 = .ok (.getfield 77, 3) := by decide +kernel
theorem dX11_morning_28 : decode cX11_morning 28 = .ok (.invokevirtual 109, 3) := by decide +kernel
theorem dX11_morning_31 : decode cX11_morning 31 = .ok (.iload_n 1, 1) := by decide +kernel
theorem dX11_morning_32 : decode cX11_morning 32 = .ok (.ireturn, 1) := by decide +kernel
theorem dX11_order_0 : decode cX11_order 0 = .ok (.aload_n 0, 1) := by decide +kernel
theorem dX11_order_1 : decode cX11_order 1 = .ok (.getfield 77, 3) := by decide +kernel
theorem dX11_order_4 : decode cX11_order 4 = .ok (.aload_n 0, 1) := by decide +kernel
theorem dX11_order_5 : decode cX11_order 5 = .ok (.getfield 10, 3) := by decide +kernel
theorem dX11_order_8 : decode cX11_order 8 = .ok (.invokevirtual 294, 3) := by decide +kernel
theorem dX11_order_11 : decode cX11_order 11 = .ok (.istore_n 1, 1) := by decide +kernel
theorem dX11_order_12 : decode cX11_order 12 = .ok (.aload_n 0, 1) := by decide +kernel
theorem dX11_order_13 : decode cX11_order 13 = .ok (.getfield 10, 3) := by decide +kernel
theorem dX11_order_16 : decode cX11_order 16 = .ok (.iconst 0, 1) := by decide +kernel
theorem dX11_order_17 : decode cX11_order 17 = .ok (.putfield 88, 3) := by decide +kernel
theorem dX11_order_20 : decode cX11_order 20 = .ok (.iload_n 1, 1) := by decide +kernel
theorem dX11_order_21 : decode cX11_order 21 = .ok (.ireturn, 1) := by decide +kernel
theorem dX11_best_0 : decode cX11_best 0 = .ok (.iload_n 1, 1) := by decide +kernel
theorem dX11_best_1 : decode cX11_best 1 = .ok (.iconst 0, 1) := by decide +kernel
theorem dX11_best_2 : decode cX11_best 2 = .ok (.sipush 999, 3) := by decide +kernel
theorem dX11_best_5 : decode cX11_best 5 = .ok (.invokestatic 166, 3) := by decide +kernel
theorem dX11_best_8 : decode cX11_best 8 = .ok (.ifCond .eq 14, 3) := by decide +kernel
theorem dX11_best_11 : decode cX11_best 11 = .ok (.aload_n 0, 1) := by decide +kernel
theorem dX11_best_12 : decode cX11_best 12 = .ok (.getfield 77, 3) := by decide +kernel
theorem dX11_best_15 : decode cX11_best 15 = .ok (.iload_n 1, 1) := by decide +kernel
theorem dX11_best_16 : decode cX11_best 16 = .ok (.invokevirtual 298, 3) := by decide +kernel
theorem dX11_best_19 : decode cX11_best 19 = .ok (.goto 5, 3) := by decide +kernel
theorem dX11_best_22 : decode cX11_best 22 = .ok (.bipush (-2), 2) := by decide +kernel
theorem dX11_best_24 : decode cX11_best 24 = .ok (.ireturn, 1) := by decide +kernel
theorem dX11_goes_0 : decode cX11_goes 0 = .ok (.iload_n 1, 1) := by decide +kernel
theorem dX11_goes_1 : decode cX11_goes 1 = .ok (.iconst 0, 1) := by decide +kernel
theorem dX11_goes_2 : decode cX11_goes 2 = .ok (.aload_n 0, 1) := by decide +kernel
theorem dX11_goes_3 : decode cX11_goes 3 = .ok (.getfield 77, 3) := by decide +kernel
theorem dX11_goes_6 : decode cX11_goes 6 = .ok (.getfield 301, 3) := by decide +kernel
theorem dX11_goes_9 : decode cX11_goes 9 = .ok (.iconst 1, 1) := by decide +kernel
theorem dX11_goes_10 : decode cX11_goes 10 = .ok (.isub, 1) := by decide +kernel
theorem dX11_goes_11 : decode cX11_goes 11 = .ok (.invokestatic 166, 3) := by decide +kernel
theorem dX11_goes_14 : decode cX11_goes 14 = .ok (.ifCond .eq 12, 3) := by decide +kernel
theorem dX11_goes_17 : decode cX11_goes 17 = .ok (.iload_n 2, 1) := by decide +kernel
theorem dX11_goes_18 : decode cX11_goes 18 = .ok (.iconst 0, 1) := by decide +kernel
theorem dX11_goes_19 : decode cX11_goes 19 = .ok (.iconst 1, 1) := by decide +kernel
theorem dX11_goes_20 : decode cX11_goes 20 = .ok (.invokestatic 166, 3) := by decide +kernel
theorem dX11_goes_23 : decode cX11_goes 23 = .ok (.ifCond .ne 5, 3) := by decide +kernel
theorem dX11_goes_26 : decode cX11_goes 26 = .ok (.iconst (-1), 1) := by decide +kernel
theorem dX11_goes_27 : decode cX11_goes 27 = .ok (.ireturn, 1) := by decide +kernel
theorem dX11_goes_28 : decode cX11_goes 28 = .ok (.iload_n 2, 1) := by decide +kernel
theorem dX11_goes_29 : decode cX11_goes 29 = .ok (.ifCond .ne 15, 3) := by decide +kernel
theorem dX11_goes_32 : decode cX11_goes 32 = .ok (.aload_n 0, 1) := by decide +kernel
theorem dX11_goes_33 : decode cX11_goes 33 = .ok (.getfield 77, 3) := by decide +kernel
theorem dX11_goes_36 : decode cX11_goes 36 = .ok (.getfield 304, 3) := by decide +kernel
theorem dX11_goes_39 : decode cX11_goes 39 = .ok (.iload_n 1, 1) := by decide +kernel
theorem dX11_goes_40 : decode cX11_goes 40 = .ok (.iaload, 1) := by decide +kernel
theorem dX11_goes_41 : decode cX11_goes 41 = .ok (.goto 12, 3) := by decide +kernel
theorem dX11_goes_44 : decode cX11_goes 44 = .ok (.aload_n 0, 1) := by decide +kernel
theorem dX11_goes_45 : decode cX11_goes 45 = .ok (.getfield 77, 3) := by decide +kernel
theorem dX11_goes_48 : decode cX11_goes 48 = .ok (.getfield 307, 3) := by decide +kernel
theorem dX11_goes_51 : decode cX11_goes 51 = .ok (.iload_n 1, 1) := by decide +kernel
theorem dX11_goes_52 : decode cX11_goes 52 = .ok (.iaload, 1) := by decide +kernel
theorem dX11_goes_53 : decode cX11_goes 53 = .ok (.ireturn, 1) := by decide +kernel
theorem dX11_list_0 : decode cX11_list 0 = .ok (.iload_n 1, 1) := by decide +kernel
theorem dX11_list_1 : decode cX11_list 1 = .ok (.ifCond .lt 23, 3) := by decide +kernel
theorem dX11_list_4 : decode cX11_list 4 = .ok (.iload_n 2, 1) := by decide +kernel
theorem dX11_list_5 : decode cX11_list 5 = .ok (.iconst 1, 1) := by decide +kernel
theorem dX11_list_6 : decode cX11_list 6 = .ok (.bipush 30, 2) := by decide +kernel
theorem dX11_list_8 : decode cX11_list 8 = .ok (.invokestatic 166, 3) := by decide +kernel
theorem dX11_list_11 : decode cX11_list 11 = .ok (.ifCond .eq 13, 3) := by decide +kernel
theorem dX11_list_14 : decode cX11_list 14 = .ok (.iload 4, 2) := by decide +kernel
theorem dX11_list_16 : decode cX11_list 16 = .ok (.ifCond .lt 8, 3) := by decide +kernel
theorem dX11_list_19 : decode cX11_list 19 = .ok (.iload 6, 2) := by decide +kernel
theorem dX11_list_21 : decode cX11_list 21 = .ok (.ifCond .ge 6, 3) := by decide +kernel
theorem dX11_list_24 : decode cX11_list 24 = .ok (.bipush (-2), 2) := by decide +kernel
theorem dX11_list_26 : decode cX11_list 26 = .ok (.ireturn, 1) := by decide +kernel
theorem dX11_list_27 : decode cX11_list 27 = .ok (.iconst 1, 1) := by decide +kernel
theorem dX11_list_28 : decode cX11_list 28 = .ok (.iload_n 2, 1) := by decide +kernel
theorem dX11_list_29 : decode cX11_list 29 = .ok (.ishl, 1) := by decide +kernel
theorem dX11_list_30 : decode cX11_list 30 = .ok (.iconst 1, 1) := by decide +kernel
theorem dX11_list_31 : decode cX11_list 31 = .ok (.isub, 1) := by decide +kernel
theorem dX11_list_32 : decode cX11_list 32 = .ok (.istore 7, 2) := by decide +kernel
theorem dX11_list_34 : decode cX11_list 34 = .ok (.iload_n 3, 1) := by decide +kernel
theorem dX11_list_35 : decode cX11_list 35 = .ok (.iload 7, 2) := by decide +kernel
theorem dX11_list_37 : decode cX11_list 37 = .ok (.iconst (-1), 1) := by decide +kernel
theorem dX11_list_38 : decode cX11_list 38 = .ok (.ixor, 1) := by decide +kernel
theorem dX11_list_39 : decode cX11_list 39 = .ok (.iand, 1) := by decide +kernel
theorem dX11_list_40 : decode cX11_list 40 = .ok (.ifCond .ne 13, 3) := by decide +kernel
theorem dX11_list_43 : decode cX11_list 43 = .ok (.iload 5, 2) := by decide +kernel
theorem dX11_list_45 : decode cX11_list 45 = .ok (.iload 7, 2) := by decide +kernel
theorem dX11_list_47 : decode cX11_list 47 = .ok (.iconst (-1), 1) := by decide +kernel
theorem dX11_list_48 : decode cX11_list 48 = .ok (.ixor, 1) := by decide +kernel
theorem dX11_list_49 : decode cX11_list 49 = .ok (.iand, 1) := by decide +kernel
theorem dX11_list_50 : decode cX11_list 50 = .ok (.ifCond .eq 6, 3) := by decide +kernel
theorem dX11_list_53 : decode cX11_list 53 = .ok (.bipush (-2), 2) := by decide +kernel
theorem dX11_list_55 : decode cX11_list 55 = .ok (.ireturn, 1) := by decide +kernel
theorem dX11_list_56 : decode cX11_list 56 = .ok (.iload 5, 2) := by decide +kernel
theorem dX11_list_58 : decode cX11_list 58 = .ok (.iload_n 3, 1) := by decide +kernel
theorem dX11_list_59 : decode cX11_list 59 = .ok (.iconst (-1), 1) := by decide +kernel
theorem dX11_list_60 : decode cX11_list 60 = .ok (.ixor, 1) := by decide +kernel
theorem dX11_list_61 : decode cX11_list 61 = .ok (.iand, 1) := by decide +kernel
theorem dX11_list_62 : decode cX11_list 62 = .ok (.istore 8, 2) := by decide +kernel
theorem dX11_list_64 : decode cX11_list 64 = .ok (.iload 4, 2) := by decide +kernel
theorem dX11_list_66 : decode cX11_list 66 = .ok (.iload_n 3, 1) := by decide +kernel
theorem dX11_list_67 : decode cX11_list 67 = .ok (.invokestatic 310, 3) := by decide +kernel
theorem dX11_list_70 : decode cX11_list 70 = .ok (.if_icmp .gt 13, 3) := by decide +kernel
theorem dX11_list_73 : decode cX11_list 73 = .ok (.iload 6, 2) := by decide +kernel
theorem dX11_list_75 : decode cX11_list 75 = .ok (.iload 8, 2) := by decide +kernel
theorem dX11_list_77 : decode cX11_list 77 = .ok (.invokestatic 310, 3) := by decide +kernel
theorem dX11_list_80 : decode cX11_list 80 = .ok (.if_icmp .le 5, 3) := by decide +kernel
theorem dX11_list_83 : decode cX11_list 83 = .ok (.iconst (-1), 1) := by decide +kernel
theorem dX11_list_84 : decode cX11_list 84 = .ok (.ireturn, 1) := by decide +kernel
theorem dX11_list_85 : decode cX11_list 85 = .ok (.aload_n 0, 1) := by decide +kernel
theorem dX11_list_86 : decode cX11_list 86 = .ok (.getfield 84, 3) := by decide +kernel
theorem dX11_list_89 : decode cX11_list 89 = .ok (.iload_n 1, 1) := by decide +kernel
theorem dX11_list_90 : decode cX11_list 90 = .ok (.iload 7, 2) := by decide +kernel
theorem dX11_list_92 : decode cX11_list 92 = .ok (.invokevirtual 315, 3) := by decide +kernel
theorem dX11_list_95 : decode cX11_list 95 = .ok (.aload_n 0, 1) := by decide +kernel
theorem dX11_list_96 : decode cX11_list 96 = .ok (.getfield 84, 3) := by decide +kernel
theorem dX11_list_99 : decode cX11_list 99 = .ok (.iload_n 3, 1) := by decide +kernel
theorem dX11_list_100 : decode cX11_list 100 = .ok (.iload 4, 2) := by decide +kernel
theorem dX11_list_102 : decode cX11_list 102 = .ok (.invokevirtual 318, 3) := by decide +kernel
theorem dX11_list_105 : decode cX11_list 105 = .ok (.aload_n 0, 1) := by decide +kernel
theorem dX11_list_106 : decode cX11_list 106 = .ok (.getfield 84, 3) := by decide +kernel
theorem dX11_list_109 : decode cX11_list 109 = .ok (.iload 8, 2) := by decide +kernel
theorem dX11_list_111 : decode cX11_list 111 = .ok (.iload 6, 2) := by decide +kernel
theorem dX11_list_113 : decode cX11_list 113 = .ok (.invokevirtual 318, 3) := by decide +kernel
theorem dX11_list_116 : decode cX11_list 116 = .ok (.aload_n 0, 1) := by decide +kernel
theorem dX11_list_117 : decode cX11_list 117 = .ok (.getfield 84, 3) := by decide +kernel
theorem dX11_list_120 : decode cX11_list 120 = .ok (.iload 7, 2) := by decide +kernel
theorem dX11_list_122 : decode cX11_list 122 = .ok (.iload_n 2, 1) := by decide +kernel
theorem dX11_list_123 : decode cX11_list 123 = .ok (.iload 4, 2) := by decide +kernel
theorem dX11_list_125 : decode cX11_list 125 = .ok (.isub, 1) := by decide +kernel
theorem dX11_list_126 : decode cX11_list 126 = .ok (.iload 6, 2) := by decide +kernel
theorem dX11_list_128 : decode cX11_list 128 = .ok (.isub, 1) := by decide +kernel
theorem dX11_list_129 : decode cX11_list 129 = .ok (.invokevirtual 318, 3) := by decide +kernel
theorem dX11_list_132 : decode cX11_list 132 = .ok (.aload_n 0, 1) := by decide +kernel
theorem dX11_list_133 : decode cX11_list 133 = .ok (.getfield 84, 3) := by decide +kernel
theorem dX11_list_136 : decode cX11_list 136 = .ok (.getfield 321, 3) := by decide +kernel
theorem dX11_list_139 : decode cX11_list 139 = .ok (.ireturn, 1) := by decide +kernel
theorem dX11_listed_0 : decode cX11_listed 0 = .ok (.iload_n 1, 1) := by decide +kernel
theorem dX11_listed_1 : decode cX11_listed 1 = .ok (.iconst 0, 1) := by decide +kernel
theorem dX11_listed_2 : decode cX11_listed 2 = .ok (.aload_n 0, 1) := by decide +kernel
theorem dX11_listed_3 : decode cX11_listed 3 = .ok (.getfield 84, 3) := by decide +kernel
theorem dX11_listed_6 : decode cX11_listed 6 = .ok (.getfield 321, 3) := by decide +kernel
theorem dX11_listed_9 : decode cX11_listed 9 = .ok (.iconst 1, 1) := by decide +kernel
theorem dX11_listed_10 : decode cX11_listed 10 = .ok (.isub, 1) := by decide +kernel
theorem dX11_listed_11 : decode cX11_listed 11 = .ok (.invokestatic 166, 3) := by decide +kernel
theorem dX11_listed_14 : decode cX11_listed 14 = .ok (.ifCond .eq 15, 3) := by decide +kernel
theorem dX11_listed_17 : decode cX11_listed 17 = .ok (.aload_n 0, 1) := by decide +kernel
theorem dX11_listed_18 : decode cX11_listed 18 = .ok (.getfield 84, 3) := by decide +kernel
theorem dX11_listed_21 : decode cX11_listed 21 = .ok (.getfield 322, 3) := by decide +kernel
theorem dX11_listed_24 : decode cX11_listed 24 = .ok (.iload_n 1, 1) := by decide +kernel
theorem dX11_listed_25 : decode cX11_listed 25 = .ok (.iaload, 1) := by decide +kernel
theorem dX11_listed_26 : decode cX11_listed 26 = .ok (.goto 4, 3) := by decide +kernel
theorem dX11_listed_29 : decode cX11_listed 29 = .ok (.iconst (-1), 1) := by decide +kernel
theorem dX11_listed_30 : decode cX11_listed 30 = .ok (.ireturn, 1) := by decide +kernel
theorem dX11_across_0 : decode cX11_across 0 = .ok (.iload_n 1, 1) := by decide +kernel
theorem dX11_across_1 : decode cX11_across 1 = .ok (.iconst 0, 1) := by decide +kernel
theorem dX11_across_2 : decode cX11_across 2 = .ok (.aload_n 0, 1) := by decide +kernel
theorem dX11_across_3 : decode cX11_across 3 = .ok (.getfield 19, 3) := by decide +kernel
theorem dX11_across_6 : decode cX11_across 6 = .ok (.iconst 3, 1) := by decide +kernel
theorem dX11_across_7 : decode cX11_across 7 = .ok (.invokevirtual 325, 3) := by decide +kernel
theorem dX11_across_10 : decode cX11_across 10 = .ok (.invokestatic 166, 3) := by decide +kernel
theorem dX11_across_13 : decode cX11_across 13 = .ok (.ifCond .eq 23, 3) := by decide +kernel
theorem dX11_across_16 : decode cX11_across 16 = .ok (.iload_n 2, 1) := by decide +kernel
theorem dX11_across_17 : decode cX11_across 17 = .ok (.iconst 0, 1) := by decide +kernel
theorem dX11_across_18 : decode cX11_across 18 = .ok (.sipush 200, 3) := by decide +kernel
theorem dX11_across_21 : decode cX11_across 21 = .ok (.invokestatic 166, 3) := by decide +kernel
theorem dX11_across_24 : decode cX11_across 24 = .ok (.ifCond .eq 12, 3) := by decide +kernel
theorem dX11_across_27 : decode cX11_across 27 = .ok (.iload_n 3, 1) := by decide +kernel
theorem dX11_across_28 : decode cX11_across 28 = .ok (.iconst 0, 1) := by decide +kernel
theorem dX11_across_29 : decode cX11_across 29 = .ok (.iconst 1, 1) := by decide +kernel
theorem dX11_across_30 : decode cX11_across 30 = .ok (.invokestatic 166, 3) := by decide +kernel
theorem dX11_across_33 : decode cX11_across 33 = .ok (.ifCond .ne 6, 3) := by decide +kernel
theorem dX11_across_36 : decode cX11_across 36 = .ok (.bipush (-2), 2) := by decide +kernel
theorem dX11_across_38 : decode cX11_across 38 = .ok (.ireturn, 1) := by decide +kernel
theorem dX11_across_39 : decode cX11_across 39 = .ok (.aload_n 0, 1) := by decide +kernel
theorem dX11_across_40 : decode cX11_across 40 = .ok (.getfield 19, 3) := by decide +kernel
theorem dX11_across_43 : decode cX11_across 43 = .ok (.iload_n 1, 1) := by decide +kernel
theorem dX11_across_44 : decode cX11_across 44 = .ok (.iload_n 2, 1) := by decide +kernel
theorem dX11_across_45 : decode cX11_across 45 = .ok (.invokevirtual 328, 3) := by decide +kernel
theorem dX11_across_48 : decode cX11_across 48 = .ok (.istore 4, 2) := by decide +kernel
theorem dX11_across_50 : decode cX11_across 50 = .ok (.iload_n 3, 1) := by decide +kernel
theorem dX11_across_51 : decode cX11_across 51 = .ok (.ifCond .ne 8, 3) := by decide +kernel
theorem dX11_across_54 : decode cX11_across 54 = .ok (.iload 4, 2) := by decide +kernel
theorem dX11_across_56 : decode cX11_across 56 = .ok (.goto 14, 3) := by decide +kernel
theorem dX11_across_59 : decode cX11_across 59 = .ok (.aload_n 0, 1) := by decide +kernel
theorem dX11_across_60 : decode cX11_across 60 = .ok (.getfield 19, 3) := by decide +kernel
theorem dX11_across_63 : decode cX11_across 63 = .ok (.iload 4, 2) := by decide +kernel
theorem dX11_across_65 : decode cX11_across 65 = .ok (.iload_n 1, 1) := by decide +kernel
theorem dX11_across_66 : decode cX11_across 66 = .ok (.iload_n 2, 1) := by decide +kernel
theorem dX11_across_67 : decode cX11_across 67 = .ok (.invokevirtual 331, 3) := by decide +kernel
theorem dX11_across_70 : decode cX11_across 70 = .ok (.ireturn, 1) := by decide +kernel
theorem dX11_count_0 : decode cX11_count 0 = .ok (.iload_n 1, 1) := by decide +kernel
theorem dX11_count_1 : decode cX11_count 1 = .ok (.tableswitch 111 0 7 #[47, 55, 63, 71, 79, 87, 95, 103], 47) := by decide +kernel
theorem dX11_count_48 : decode cX11_count 48 = .ok (.aload_n 0, 1) := by decide +kernel
theorem dX11_count_49 : decode cX11_count 49 = .ok (.getfield 19, 3) := by decide +kernel
theorem dX11_count_52 : decode cX11_count 52 = .ok (.getfield 113, 3) := by decide +kernel
theorem dX11_count_55 : decode cX11_count 55 = .ok (.ireturn, 1) := by decide +kernel
theorem dX11_count_56 : decode cX11_count 56 = .ok (.aload_n 0, 1) := by decide +kernel
theorem dX11_count_57 : decode cX11_count 57 = .ok (.getfield 38, 3) := by decide +kernel
theorem dX11_count_60 : decode cX11_count 60 = .ok (.getfield 157, 3) := by decide +kernel
theorem dX11_count_63 : decode cX11_count 63 = .ok (.ireturn, 1) := by decide +kernel
theorem dX11_count_64 : decode cX11_count 64 = .ok (.aload_n 0, 1) := by decide +kernel
theorem dX11_count_65 : decode cX11_count 65 = .ok (.getfield 70, 3) := by decide +kernel
theorem dX11_count_68 : decode cX11_count 68 = .ok (.getfield 255, 3) := by decide +kernel
theorem dX11_count_71 : decode cX11_count 71 = .ok (.ireturn, 1) := by decide +kernel
theorem dX11_count_72 : decode cX11_count 72 = .ok (.aload_n 0, 1) := by decide +kernel
theorem dX11_count_73 : decode cX11_count 73 = .ok (.getfield 70, 3) := by decide +kernel
theorem dX11_count_76 : decode cX11_count 76 = .ok (.getfield 334, 3) := by decide +kernel
theorem dX11_count_79 : decode cX11_count 79 = .ok (.ireturn, 1) := by decide +kernel
theorem dX11_count_80 : decode cX11_count 80 = .ok (.aload_n 0, 1) := by decide +kernel
theorem dX11_count_81 : decode cX11_count 81 = .ok (.getfield 77, 3) := by decide +kernel
theorem dX11_count_84 : decode cX11_count 84 = .ok (.getfield 288, 3) := by decide +kernel
theorem dX11_count_87 : decode cX11_count 87 = .ok (.ireturn, 1) := by decide +kernel
theorem dX11_count_88 : decode cX11_count 88 = .ok (.aload_n 0, 1) := by decide +kernel
theorem dX11_count_89 : decode cX11_count 89 = .ok (.getfield 77, 3) := by decide +kernel
theorem dX11_count_92 : decode cX11_count 92 = .ok (.getfield 291, 3) := by decide +kernel
theorem dX11_count_95 : decode cX11_count 95 = .ok (.ireturn, 1) := by decide +kernel
theorem dX11_count_96 : decode cX11_count 96 = .ok (.aload_n 0, 1) := by decide +kernel
theorem dX11_count_97 : decode cX11_count 97 = .ok (.getfield 56, 3) := by decide +kernel
theorem dX11_count_100 : decode cX11_count 100 = .ok (.invokevirtual 337, 3) := by decide +kernel
theorem dX11_count_103 : decode cX11_count 103 = .ok (.ireturn, 1) := by decide +kernel
theorem dX11_count_104 : decode cX11_count 104 = .ok (.aload_n 0, 1) := by decide +kernel
theorem dX11_count_105 : decode cX11_count 105 = .ok (.getfield 10, 3) := by decide +kernel
theorem dX11_count_108 : decode cX11_count 108 = .ok (.getfield 88, 3) := by decide +kernel
theorem dX11_count_111 : decode cX11_count 111 = .ok (.ireturn, 1) := by decide +kernel
theorem dX11_count_112 : decode cX11_count 112 = .ok (.iconst (-1), 1) := by decide +kernel
theorem dX11_count_113 : decode cX11_count 113 = .ok (.ireturn, 1) := by decide +kernel
theorem dX11_isHut_0 : decode cX11_isHut 0 = .ok (.iload_n 1, 1) := by decide +kernel
theorem dX11_isHut_1 : decode cX11_isHut 1 = .ok (.ifCond .lt 18, 3) := by decide +kernel
theorem dX11_isHut_4 : decode cX11_isHut 4 = .ok (.iload_n 1, 1) := by decide +kernel
theorem dX11_isHut_5 : decode cX11_isHut 5 = .ok (.aload_n 0, 1) := by decide +kernel
theorem dX11_isHut_6 : decode cX11_isHut 6 = .ok (.getfield 19, 3) := by decide +kernel
theorem dX11_isHut_9 : decode cX11_isHut 9 = .ok (.getfield 340, 3) := by decide +kernel
theorem dX11_isHut_12 : decode cX11_isHut 12 = .ok (.if_icmp .ge 7, 3) := by decide +kernel
theorem dX11_isHut_15 : decode cX11_isHut 15 = .ok (.iconst 1, 1) := by decide +kernel
theorem dX11_isHut_16 : decode cX11_isHut 16 = .ok (.goto 4, 3) := by decide +kernel
theorem dX11_isHut_19 : decode cX11_isHut 19 = .ok (.iconst 0, 1) := by decide +kernel
theorem dX11_isHut_20 : decode cX11_isHut 20 = .ok (.ireturn, 1) := by decide +kernel
theorem dX11_isGarden_0 : decode cX11_isGarden 0 = .ok (.iload_n 1, 1) := by decide +kernel
theorem dX11_isGarden_1 : decode cX11_isGarden 1 = .ok (.ifCond .lt 18, 3) := by decide +kernel
theorem dX11_isGarden_4 : decode cX11_isGarden 4 = .ok (.iload_n 1, 1) := by decide +kernel
theorem dX11_isGarden_5 : decode cX11_isGarden 5 = .ok (.aload_n 0, 1) := by decide +kernel
theorem dX11_isGarden_6 : decode cX11_isGarden 6 = .ok (.getfield 19, 3) := by decide +kernel
theorem dX11_isGarden_9 : decode cX11_isGarden 9 = .ok (.getfield 343, 3) := by decide +kernel
theorem dX11_isGarden_12 : decode cX11_isGarden 12 = .ok (.if_icmp .ge 7, 3) := by decide +kernel
theorem dX11_isGarden_15 : decode cX11_isGarden 15 = .ok (.iconst 1, 1) := by decide +kernel
theorem dX11_isGarden_16 : decode cX11_isGarden 16 = .ok (.goto 4, 3) := by decide +kernel
theorem dX11_isGarden_19 : decode cX11_isGarden 19 = .ok (.iconst 0, 1) := by decide +kernel
theorem dX11_isGarden_20 : decode cX11_isGarden 20 = .ok (.ireturn, 1) := by decide +kernel
theorem dX11_isTunnel_0 : decode cX11_isTunnel 0 = .ok (.iload_n 1, 1) := by decide +kernel
theorem dX11_isTunnel_1 : decode cX11_isTunnel 1 = .ok (.ifCond .lt 18, 3) := by decide +kernel
theorem dX11_isTunnel_4 : decode cX11_isTunnel 4 = .ok (.iload_n 1, 1) := by decide +kernel
theorem dX11_isTunnel_5 : decode cX11_isTunnel 5 = .ok (.aload_n 0, 1) := by decide +kernel
theorem dX11_isTunnel_6 : decode cX11_isTunnel 6 = .ok (.getfield 38, 3) := by decide +kernel
theorem dX11_isTunnel_9 : decode cX11_isTunnel 9 = .ok (.getfield 157, 3) := by decide +kernel
theorem dX11_isTunnel_12 : decode cX11_isTunnel 12 = .ok (.if_icmp .ge 7, 3) := by decide +kernel
theorem dX11_isTunnel_15 : decode cX11_isTunnel 15 = .ok (.iconst 1, 1) := by decide +kernel
theorem dX11_isTunnel_16 : decode cX11_isTunnel 16 = .ok (.goto 4, 3) := by decide +kernel
theorem dX11_isTunnel_19 : decode cX11_isTunnel 19 = .ok (.iconst 0, 1) := by decide +kernel
theorem dX11_isTunnel_20 : decode cX11_isTunnel 20 = .ok (.ireturn, 1) := by decide +kernel
theorem dX11_areLooks_0 : decode cX11_areLooks 0 = .ok (.iload_n 1, 1) := by decide +kernel
theorem dX11_areLooks_1 : decode cX11_areLooks 1 = .ok (.ifCond .lt 20, 3) := by decide +kernel
theorem dX11_areLooks_4 : decode cX11_areLooks 4 = .ok (.iload_n 1, 1) := by decide +kernel
theorem dX11_areLooks_5 : decode cX11_areLooks 5 = .ok (.iconst 1, 1) := by decide +kernel
theorem dX11_areLooks_6 : decode cX11_areLooks 6 = .ok (.aload_n 0, 1) := by decide +kernel
theorem dX11_areLooks_7 : decode cX11_areLooks 7 = .ok (.getfield 19, 3) := by decide +kernel
theorem dX11_areLooks_10 : decode cX11_areLooks 10 = .ok (.getfield 133, 3) := by decide +kernel
theorem dX11_areLooks_13 : decode cX11_areLooks 13 = .ok (.ishl, 1) := by decide +kernel
theorem dX11_areLooks_14 : decode cX11_areLooks 14 = .ok (.if_icmp .ge 7, 3) := by decide +kernel
theorem dX11_areLooks_17 : decode cX11_areLooks 17 = .ok (.iconst 1, 1) := by decide +kernel
theorem dX11_areLooks_18 : decode cX11_areLooks 18 = .ok (.goto 4, 3) := by decide +kernel
theorem dX11_areLooks_21 : decode cX11_areLooks 21 = .ok (.iconst 0, 1) := by decide +kernel
theorem dX11_areLooks_22 : decode cX11_areLooks 22 = .ok (.ireturn, 1) := by decide +kernel
theorem dX11_isStep_0 : decode cX11_isStep 0 = .ok (.iload_n 0, 1) := by decide +kernel
theorem dX11_isStep_1 : decode cX11_isStep 1 = .ok (.iconst 0, 1) := by decide +kernel
theorem dX11_isStep_2 : decode cX11_isStep 2 = .ok (.sipush 999, 3) := by decide +kernel
theorem dX11_isStep_5 : decode cX11_isStep 5 = .ok (.invokestatic 166, 3) := by decide +kernel
theorem dX11_isStep_8 : decode cX11_isStep 8 = .ok (.ireturn, 1) := by decide +kernel
theorem dX11_isWithin_0 : decode cX11_isWithin 0 = .ok (.iload_n 0, 1) := by decide +kernel
theorem dX11_isWithin_1 : decode cX11_isWithin 1 = .ok (.iload_n 1, 1) := by decide +kernel
theorem dX11_isWithin_2 : decode cX11_isWithin 2 = .ok (.if_icmp .lt 12, 3) := by decide +kernel
theorem dX11_isWithin_5 : decode cX11_isWithin 5 = .ok (.iload_n 0, 1) := by decide +kernel
theorem dX11_isWithin_6 : decode cX11_isWithin 6 = .ok (.iload_n 2, 1) := by decide +kernel
theorem dX11_isWithin_7 : decode cX11_isWithin 7 = .ok (.if_icmp .gt 7, 3) := by decide +kernel
theorem dX11_isWithin_10 : decode cX11_isWithin 10 = .ok (.iconst 1, 1) := by decide +kernel
theorem dX11_isWithin_11 : decode cX11_isWithin 11 = .ok (.goto 4, 3) := by decide +kernel
theorem dX11_isWithin_14 : decode cX11_isWithin 14 = .ok (.iconst 0, 1) := by decide +kernel
theorem dX11_isWithin_15 : decode cX11_isWithin 15 = .ok (.ireturn, 1) := by decide +kernel
theorem dX12_in_0 : decode cX12_in 0 = .ok (.lload_n 0, 1) := by decide +kernel
theorem dX12_in_1 : decode cX12_in 1 = .ok (.lload_n 2, 1) := by decide +kernel
theorem dX12_in_2 : decode cX12_in 2 = .ok (.lcmp, 1) := by decide +kernel
theorem dX12_in_3 : decode cX12_in 3 = .ok (.ifCond .lt 14, 3) := by decide +kernel
theorem dX12_in_6 : decode cX12_in 6 = .ok (.lload_n 0, 1) := by decide +kernel
theorem dX12_in_7 : decode cX12_in 7 = .ok (.lload 4, 2) := by decide +kernel
theorem dX12_in_9 : decode cX12_in 9 = .ok (.lcmp, 1) := by decide +kernel
theorem dX12_in_10 : decode cX12_in 10 = .ok (.ifCond .gt 7, 3) := by decide +kernel
theorem dX12_in_13 : decode cX12_in 13 = .ok (.iconst 1, 1) := by decide +kernel
theorem dX12_in_14 : decode cX12_in 14 = .ok (.goto 4, 3) := by decide +kernel
theorem dX12_in_17 : decode cX12_in 17 = .ok (.iconst 0, 1) := by decide +kernel
theorem dX12_in_18 : decode cX12_in 18 = .ok (.ireturn, 1) := by decide +kernel
theorem dX12_bad_0 : decode cX12_bad 0 = .ok (.aload_n 0, 1) := by decide +kernel
theorem dX12_bad_1 : decode cX12_bad 1 = .ok (.iload_n 1, 1) := by decide +kernel
theorem dX12_bad_2 : decode cX12_bad 2 = .ok (.putfield 3, 3) := by decide +kernel
theorem dX12_bad_5 : decode cX12_bad 5 = .ok (.aload_n 0, 1) := by decide +kernel
theorem dX12_bad_6 : decode cX12_bad 6 = .ok (.aload_n 0, 1) := by decide +kernel
theorem dX12_bad_7 : decode cX12_bad 7 = .ok (.getfield 7, 3) := by decide +kernel
theorem dX12_bad_10 : decode cX12_bad 10 = .ok (.putfield 10, 3) := by decide +kernel
theorem dX12_bad_13 : decode cX12_bad 13 = .ok (.iconst 0, 1) := by decide +kernel
theorem dX12_bad_14 : decode cX12_bad 14 = .ok (.ireturn, 1) := by decide +kernel
theorem dX12_byteAt_0 : decode cX12_byteAt 0 = .ok (.iload_n 1, 1) := by decide +kernel
theorem dX12_byteAt_1 : decode cX12_byteAt 1 = .ok (.aload_n 0, 1) := by decide +kernel
theorem dX12_byteAt_2 : decode cX12_byteAt 2 = .ok (.getfield 13, 3) := by decide +kernel
theorem dX12_byteAt_5 : decode cX12_byteAt 5 = .ok (.if_icmp .ge 16, 3) := by decide +kernel
theorem dX12_byteAt_8 : decode cX12_byteAt 8 = .ok (.aload_n 0, 1) := by decide +kernel
theorem dX12_byteAt_9 : decode cX12_byteAt 9 = .ok (.getfield 16, 3) := by decide +kernel
theorem dX12_byteAt_12 : decode cX12_byteAt 12 = .ok (.iload_n 1, 1) := by decide +kernel
theorem dX12_byteAt_13 : decode cX12_byteAt 13 = .ok (.baload, 1) := by decide +kernel
theorem dX12_byteAt_14 : decode cX12_byteAt 14 = .ok (.sipush 255, 3) := by decide +kernel
theorem dX12_byteAt_17 : decode cX12_byteAt 17 = .ok (.iand, 1) := by decide +kernel
theorem dX12_byteAt_18 : decode cX12_byteAt 18 = .ok (.goto 4, 3) := by decide +kernel
theorem dX12_byteAt_21 : decode cX12_byteAt 21 = .ok (.iconst 0, 1) := by decide +kernel
theorem dX12_byteAt_22 : decode cX12_byteAt 22 = .ok (.ireturn, 1) := by decide +kernel
theorem dX12_isSmall_0 : decode cX12_isSmall 0 = .ok (.iload_n 0, 1) := by decide +kernel
theorem dX12_isSmall_1 : decode cX12_isSmall 1 = .ok (.bipush 97, 2) := by decide +kernel
theorem dX12_isSmall_3 : decode cX12_isSmall 3 = .ok (.if_icmp .lt 13, 3) := by decide +kernel
theorem dX12_isSmall_6 : decode cX12_isSmall 6 = .ok (.iload_n 0, 1) := by decide +kernel
theorem dX12_isSmall_7 : decode cX12_isSmall 7 = .ok (.bipush 122, 2) := by decide +kernel
theorem dX12_isSmall_9 : decode cX12_isSmall 9 = .ok (.if_icmp .gt 7, 3) := by decide +kernel
theorem dX12_isSmall_12 : decode cX12_isSmall 12 = .ok (.iconst 1, 1) := by decide +kernel
theorem dX12_isSmall_13 : decode cX12_isSmall 13 = .ok (.goto 4, 3) := by decide +kernel
theorem dX12_isSmall_16 : decode cX12_isSmall 16 = .ok (.iconst 0, 1) := by decide +kernel
theorem dX12_isSmall_17 : decode cX12_isSmall 17 = .ok (.ireturn, 1) := by decide +kernel
theorem dX12_isDigit_0 : decode cX12_isDigit 0 = .ok (.iload_n 0, 1) := by decide +kernel
theorem dX12_isDigit_1 : decode cX12_isDigit 1 = .ok (.bipush 48, 2) := by decide +kernel
theorem dX12_isDigit_3 : decode cX12_isDigit 3 = .ok (.if_icmp .lt 13, 3) := by decide +kernel
theorem dX12_isDigit_6 : decode cX12_isDigit 6 = .ok (.iload_n 0, 1) := by decide +kernel
theorem dX12_isDigit_7 : decode cX12_isDigit 7 = .ok (.bipush 57, 2) := by decide +kernel
theorem dX12_isDigit_9 : decode cX12_isDigit 9 = .ok (.if_icmp .gt 7, 3) := by decide +kernel
theorem dX12_isDigit_12 : decode cX12_isDigit 12 = .ok (.iconst 1, 1) := by decide +kernel
theorem dX12_isDigit_13 : decode cX12_isDigit 13 = .ok (.goto 4, 3) := by decide +kernel
theorem dX12_isDigit_16 : decode cX12_isDigit 16 = .ok (.iconst 0, 1) := by decide +kernel
theorem dX12_isDigit_17 : decode cX12_isDigit 17 = .ok (.ireturn, 1) := by decide +kernel
theorem dX12_scan_0 : decode cX12_scan 0 = .ok (.aload_n 0, 1) := by decide +kernel
theorem dX12_scan_1 : decode cX12_scan 1 = .ok (.getfield 20, 3) := by decide +kernel
theorem dX12_scan_4 : decode cX12_scan 4 = .ok (.aload_n 0, 1) := by decide +kernel
theorem dX12_scan_5 : decode cX12_scan 5 = .ok (.getfield 13, 3) := by decide +kernel
theorem dX12_scan_8 : decode cX12_scan 8 = .ok (.if_icmp .ge 44, 3) := by decide +kernel
theorem dX12_scan_11 : decode cX12_scan 11 = .ok (.aload_n 0, 1) := by decide +kernel
theorem dX12_scan_12 : decode cX12_scan 12 = .ok (.getfield 16, 3) := by decide +kernel
theorem dX12_scan_15 : decode cX12_scan 15 = .ok (.aload_n 0, 1) := by decide +kernel
theorem dX12_scan_16 : decode cX12_scan 16 = .ok (.getfield 20, 3) := by decide +kernel
theorem dX12_scan_19 : decode cX12_scan 19 = .ok (.baload, 1) := by decide +kernel
theorem dX12_scan_20 : decode cX12_scan 20 = .ok (.bipush 32, 2) := by decide +kernel
theorem dX12_scan_22 : decode cX12_scan 22 = .ok (.if_icmp .eq 17, 3) := by decide +kernel
theorem dX12_scan_25 : decode cX12_scan 25 = .ok (.aload_n 0, 1) := by decide +kernel
theorem dX12_scan_26 : decode cX12_scan 26 = .ok (.getfield 16, 3) := by decide +kernel
theorem dX12_scan_29 : decode cX12_scan 29 = .ok (.aload_n 0, 1) := by decide +kernel
theorem dX12_scan_30 : decode cX12_scan 30 = .ok (.getfield 20, 3) := by decide +kernel
theorem dX12_scan_33 : decode cX12_scan 33 = .ok (.baload, 1) := by decide +kernel
theorem dX12_scan_34 : decode cX12_scan 34 = .ok (.bipush 10, 2) := by decide +kernel
theorem dX12_scan_36 : decode cX12_scan 36 = .ok (.if_icmp .ne 16, 3) := by decide +kernel
theorem dX12_scan_39 : decode cX12_scan 39 = .ok (.aload_n 0, 1) := by decide +kernel
theorem dX12_scan_40 : decode cX12_scan 40 = .ok (.dup, 1) := by decide +kernel
theorem dX12_scan_41 : decode cX12_scan 41 = .ok (.getfield 20, 3) := by decide +kernel
theorem dX12_scan_44 : decode cX12_scan 44 = .ok (.iconst 1, 1) := by decide +kernel
theorem dX12_scan_45 : decode cX12_scan 45 = .ok (.iadd, 1) := by decide +kernel
theorem dX12_scan_46 : decode cX12_scan 46 = .ok (.putfield 20, 3) := by decide +kernel
theorem dX12_scan_49 : decode cX12_scan 49 = .ok (.goto (-49), 3) := by decide +kernel
theorem dX12_scan_52 : decode cX12_scan 52 = .ok (.aload_n 0, 1) := by decide +kernel
theorem dX12_scan_53 : decode cX12_scan 53 = .ok (.aload_n 0, 1) := by decide +kernel
theorem dX12_scan_54 : decode cX12_scan 54 = .ok (.getfield 20, 3) := by decide +kernel
theorem dX12_scan_57 : decode cX12_scan 57 = .ok (.putfield 7, 3) := by decide +kernel
theorem dX12_scan_60 : decode cX12_scan 60 = .ok (.aload_n 0, 1) := by decide +kernel
theorem dX12_scan_61 : decode cX12_scan 61 = .ok (.aload_n 0, 1) := by decide +kernel
theorem dX12_scan_62 : decode cX12_scan 62 = .ok (.getfield 7, 3) := by decide +kernel
theorem dX12_scan_65 : decode cX12_scan 65 = .ok (.invokevirtual 23, 3) := by decide +kernel
theorem dX12_scan_68 : decode cX12_scan 68 = .ok (.istore_n 1, 1) := by decide +kernel
theorem dX12_scan_69 : decode cX12_scan 69 = .ok (.aload_n 0, 1) := by decide +kernel
theorem dX12_scan_70 : decode cX12_scan 70 = .ok (.getfield 7, 3) := by decide +kernel
theorem dX12_scan_73 : decode cX12_scan 73 = .ok (.aload_n 0, 1) := by decide +kernel
theorem dX12_scan_74 : decode cX12_scan 74 = .ok (.getfield 13, 3) := by decide +kernel
theorem dX12_scan_77 : decode cX12_scan 77 = .ok (.if_icmp .ne 11, 3) := by decide +kernel
theorem dX12_scan_80 : decode cX12_scan 80 = .ok (.aload_n 0, 1) := by decide +kernel
theorem dX12_scan_81 : decode cX12_scan 81 = .ok (.iconst 0, 1) := by decide +kernel
theorem dX12_scan_82 : decode cX12_scan 82 = .ok (.putfield 27, 3) := by decide +kernel
theorem dX12_scan_85 : decode cX12_scan 85 = .ok (.goto 188, 3) := by decide +kernel
theorem dX12_scan_88 : decode cX12_scan 88 = .ok (.iload_n 1, 1) := by decide +kernel
theorem dX12_scan_89 : decode cX12_scan 89 = .ok (.invokestatic 30, 3) := by decide +kernel
theorem dX12_scan_92 : decode cX12_scan 92 = .ok (.ifCond .eq 56, 3) := by decide +kernel
theorem dX12_scan_95 : decode cX12_scan 95 = .ok (.aload_n 0, 1) := by decide +kernel
theorem dX12_scan_96 : decode cX12_scan 96 = .ok (.aload_n 0, 1) := by decide +kernel
theorem dX12_scan_97 : decode cX12_scan 97 = .ok (.getfield 20, 3) := by decide +kernel
theorem dX12_scan_100 : decode cX12_scan 100 = .ok (.invokevirtual 23, 3) := by decide +kernel
theorem dX12_scan_103 : decode cX12_scan 103 = .ok (.invokestatic 30, 3) := by decide +kernel
theorem dX12_scan_106 : decode cX12_scan 106 = .ok (.ifCond .eq 16, 3) := by decide +kernel
theorem dX12_scan_109 : decode cX12_scan 109 = .ok (.aload_n 0, 1) := by decide +kernel
theorem dX12_scan_110 : decode cX12_scan 110 = .ok (.dup, 1) := by decide +kernel
theorem dX12_scan_111 : decode cX12_scan 111 = .ok (.getfield 20, 3) := by decide +kernel
theorem dX12_scan_114 : decode cX12_scan 114 = .ok (.iconst 1, 1) := by decide +kernel
theorem dX12_scan_115 : decode cX12_scan 115 = .ok (.iadd, 1) := by decide +kernel
theorem dX12_scan_116 : decode cX12_scan 116 = .ok (.putfield 20, 3) := by decide +kernel
theorem dX12_scan_119 : decode cX12_scan 119 = .ok (.goto (-24), 3) := by decide +kernel
theorem dX12_scan_122 : decode cX12_scan 122 = .ok (.aload_n 0, 1) := by decide +kernel
theorem dX12_scan_123 : decode cX12_scan 123 = .ok (.aload_n 0, 1) := by decide +kernel
theorem dX12_scan_124 : decode cX12_scan 124 = .ok (.getfield 20, 3) := by decide +kernel
theorem dX12_scan_127 : decode cX12_scan 127 = .ok (.aload_n 0, 1) := by decide +kernel
theorem dX12_scan_128 : decode cX12_scan 128 = .ok (.getfield 7, 3) := by decide +kernel
theorem dX12_scan_131 : decode cX12_scan 131 = .ok (.isub, 1) := by decide +kernel
theorem dX12_scan_132 : decode cX12_scan 132 = .ok (.bipush 8, 2) := by decide +kernel
theorem dX12_scan_134 : decode cX12_scan 134 = .ok (.if_icmp .le 7, 3) := by decide +kernel
theorem dX12_scan_137 : decode cX12_scan 137 = .ok (.iconst 4, 1) := by decide +kernel
theorem dX12_scan_138 : decode cX12_scan 138 = .ok (.goto 4, 3) := by decide +kernel
theorem dX12_scan_141 : decode cX12_scan 141 = .ok (.iconst 1, 1) := by decide +kernel
theorem dX12_scan_142 : decode cX12_scan 142 = .ok (.putfield 27, 3) := by decide +kernel
theorem dX12_scan_145 : decode cX12_scan 145 = .ok (.goto 128, 3) := by decide +kernel
theorem dX12_scan_148 : decode cX12_scan 148 = .ok (.iload_n 1, 1) := by decide +kernel
theorem dX12_scan_149 : decode cX12_scan 149 = .ok (.invokestatic 34, 3) := by decide +kernel
theorem dX12_scan_152 : decode cX12_scan 152 = .ok (.ifCond .eq 96, 3) := by decide +kernel
theorem dX12_scan_155 : decode cX12_scan 155 = .ok (.aload_n 0, 1) := by decide +kernel
theorem dX12_scan_156 : decode cX12_scan 156 = .ok (.iconst 0, 1) := by decide +kernel
theorem dX12_scan_157 : decode cX12_scan 157 = .ok (.putfield 37, 3) := by decide +kernel
theorem dX12_scan_160 : decode cX12_scan 160 = .ok (.aload_n 0, 1) := by decide +kernel
theorem dX12_scan_161 : decode cX12_scan 161 = .ok (.aload_n 0, 1) := by decide +kernel
theorem dX12_scan_162 : decode cX12_scan 162 = .ok (.getfield 20, 3) := by decide +kernel
theorem dX12_scan_165 : decode cX12_scan 165 = .ok (.invokevirtual 23, 3) := by decide +kernel
theorem dX12_scan_168 : decode cX12_scan 168 = .ok (.invokestatic 34, 3) := by decide +kernel
theorem dX12_scan_171 : decode cX12_scan 171 = .ok (.ifCond .eq 52, 3) := by decide +kernel
theorem dX12_scan_174 : decode cX12_scan 174 = .ok (.aload_n 0, 1) := by decide +kernel
theorem dX12_scan_175 : decode cX12_scan 175 = .ok (.getfield 20, 3) := by decide +kernel
theorem dX12_scan_178 : decode cX12_scan 178 = .ok (.aload_n 0, 1) := by decide +kernel
theorem dX12_scan_179 : decode cX12_scan 179 = .ok (.getfield 7, 3) := by decide +kernel
theorem dX12_scan_182 : decode cX12_scan 182 = .ok (.isub, 1) := by decide +kernel
theorem dX12_scan_183 : decode cX12_scan 183 = .ok (.iconst 4, 1) := by decide +kernel
theorem dX12_scan_184 : decode cX12_scan 184 = .ok (.if_icmp .ge 26, 3) := by decide +kernel
theorem dX12_scan_187 : decode cX12_scan 187 = .ok (.aload_n 0, 1) := by decide +kernel
theorem dX12_scan_188 : decode cX12_scan 188 = .ok (.bipush 10, 2) := by decide +kernel
theorem dX12_scan_190 : decode cX12_scan 190 = .ok (.aload_n 0, 1) := by decide +kernel
theorem dX12_scan_191 : decode cX12_scan 191 = .ok (.getfield 37, 3) := by decide +kernel
theorem dX12_scan_194 : decode cX12_scan 194 = .ok (.imul, 1) := by decide +kernel
theorem dX12_scan_195 : decode cX12_scan 195 = .ok (.aload_n 0, 1) := by decide +kernel
theorem dX12_scan_196 : decode cX12_scan 196 = .ok (.aload_n 0, 1) := by decide +kernel
theorem dX12_scan_197 : decode cX12_scan 197 = .ok (.getfield 20, 3) := by decide +kernel
theorem dX12_scan_200 : decode cX12_scan 200 = .ok (.invokevirtual 23, 3) := by decide +kernel
theorem dX12_scan_203 : decode cX12_scan 203 = .ok (.iadd, 1) := by decide +kernel
theorem dX12_scan_204 : decode cX12_scan 204 = .ok (.bipush 48, 2) := by decide +kernel
theorem dX12_scan_206 : decode cX12_scan 206 = .ok (.isub, 1) := by decide +kernel
theorem dX12_scan_207 : decode cX12_scan 207 = .ok (.putfield 37, 3) := by decide +kernel
theorem dX12_scan_210 : decode cX12_scan 210 = .ok (.aload_n 0, 1) := by decide +kernel
theorem dX12_scan_211 : decode cX12_scan 211 = .ok (.dup, 1) := by decide +kernel
theorem dX12_scan_212 : decode cX12_scan 212 = .ok (.getfield 20, 3) := by decide +kernel
theorem dX12_scan_215 : decode cX12_scan 215 = .ok (.iconst 1, 1) := by decide +kernel
theorem dX12_scan_216 : decode cX12_scan 216 = .ok (.iadd, 1) := by decide +kernel
theorem dX12_scan_217 : decode cX12_scan 217 = .ok (.putfield 20, 3) := by decide +kernel
theorem dX12_scan_220 : decode cX12_scan 220 = .ok (.goto (-60), 3) := by decide +kernel
theorem dX12_scan_223 : decode cX12_scan 223 = .ok (.aload_n 0, 1) := by decide +kernel
theorem dX12_scan_224 : decode cX12_scan 224 = .ok (.aload_n 0, 1) := by decide +kernel
theorem dX12_scan_225 : decode cX12_scan 225 = .ok (.getfield 20, 3) := by decide +kernel
theorem dX12_scan_228 : decode cX12_scan 228 = .ok (.aload_n 0, 1) := by decide +kernel
theorem dX12_scan_229 : decode cX12_scan 229 = .ok (.getfield 7, 3) := by decide +kernel
theorem dX12_scan_232 : decode cX12_scan 232 = .ok (.isub, 1) := by decide +kernel
theorem dX12_scan_233 : decode cX12_scan 233 = .ok (.iconst 4, 1) := by decide +kernel
theorem dX12_scan_234 : decode cX12_scan 234 = .ok (.if_icmp .le 7, 3) := by decide +kernel
theorem dX12_scan_237 : decode cX12_scan 237 = .ok (.iconst 4, 1) := by decide +kernel
theorem dX12_scan_238 : decode cX12_scan 238 = .ok (.goto 4, 3) := by decide +kernel
theorem dX12_scan_241 : decode cX12_scan 241 = .ok (.iconst 2, 1) := by decide +kernel
theorem dX12_scan_242 : decode cX12_scan 242 = .ok (.putfield 27, 3) := by decide +kernel
theorem dX12_scan_245 : decode cX12_scan 245 = .ok (.goto 28, 3) := by decide +kernel
theorem dX12_scan_248 : decode cX12_scan 248 = .ok (.aload_n 0, 1) := by decide +kernel
theorem dX12_scan_249 : decode cX12_scan 249 = .ok (.iload_n 1, 1) := by decide +kernel
theorem dX12_scan_250 : decode cX12_scan 250 = .ok (.bipush 59, 2) := by decide +kernel
theorem dX12_scan_252 : decode cX12_scan 252 = .ok (.if_icmp .ne 7, 3) := by decide +kernel
theorem dX12_scan_255 : decode cX12_scan 255 = .ok (.iconst 3, 1) := by decide +kernel
theorem dX12_scan_256 : decode cX12_scan 256 = .ok (.goto 4, 3) := by decide +kernel
theorem dX12_scan_259 : decode cX12_scan 259 = .ok (.iconst 4, 1) := by decide +kernel
theorem dX12_scan_260 : decode cX12_scan 260 = .ok (.putfield 27, 3) := by decide +kernel
theorem dX12_scan_263 : decode cX12_scan 263 = .ok (.aload_n 0, 1) := by decide +kernel
theorem dX12_scan_264 : decode cX12_scan 264 = .ok (.dup, 1) := by decide +kernel
theorem dX12_scan_265 : decode cX12_scan 265 = .ok (.getfield 20, 3) := by decide +kernel
theorem dX12_scan_268 : decode cX12_scan 268 = .ok (.iconst 1, 1) := by decide +kernel
theorem dX12_scan_269 : decode cX12_scan 269 = .ok (.iadd, 1) := by decide +kernel
theorem dX12_scan_270 : decode cX12_scan 270 = .ok (.putfield 20, 3) := by decide +kernel
theorem dX12_scan_273 : decode cX12_scan 273 = .ok (.return_, 1) := by decide +kernel
theorem dX12_is_0 : decode cX12_is 0 = .ok (.aload_n 0, 1) := by decide +kernel
theorem dX12_is_1 : decode cX12_is 1 = .ok (.getfield 27, 3) := by decide +kernel
theorem dX12_is_4 : decode cX12_is 4 = .ok (.iconst 1, 1) := by decide +kernel
theorem dX12_is_5 : decode cX12_is 5 = .ok (.if_icmp .ne 23, 3) := by decide +kernel
theorem dX12_is_8 : decode cX12_is 8 = .ok (.aload_n 0, 1) := by decide +kernel
theorem dX12_is_9 : decode cX12_is 9 = .ok (.getfield 20, 3) := by decide +kernel
theorem dX12_is_12 : decode cX12_is 12 = .ok (.aload_n 0, 1) := by decide +kernel
theorem dX12_is_13 : decode cX12_is 13 = .ok (.getfield 7, 3) := by decide +kernel
theorem dX12_is_16 : decode cX12_is 16 = .ok (.isub, 1) := by decide +kernel
theorem dX12_is_17 : decode cX12_is 17 = .ok (.aload_n 1, 1) := by decide +kernel
theorem dX12_is_18 : decode cX12_is 18 = .ok (.invokevirtual 40, 3) := by decide +kernel
theorem dX12_is_21 : decode cX12_is 21 = .ok (.if_icmp .ne 7, 3) := by decide +kernel
theorem dX12_is_24 : decode cX12_is 24 = .ok (.iconst 1, 1) := by decide +kernel
theorem dX12_is_25 : decode cX12_is 25 = .ok (.goto 4, 3) := by decide +kernel
theorem dX12_is_28 : decode cX12_is 28 = .ok (.iconst 0, 1) := by decide +kernel
theorem dX12_is_29 : decode cX12_is 29 = .ok (.istore_n 2, 1) := by decide +kernel
theorem dX12_is_30 : decode cX12_is 30 = .ok (.iconst 0, 1) := by decide +kernel
theorem dX12_is_31 : decode cX12_is 31 = .ok (.istore_n 3, 1) := by decide +kernel
theorem dX12_is_32 : decode cX12_is 32 = .ok (.iload_n 3, 1) := by decide +kernel
theorem dX12_is_33 : decode cX12_is 33 = .ok (.aload_n 1, 1) := by decide +kernel
theorem dX12_is_34 : decode cX12_is 34 = .ok (.invokevirtual 40, 3) := by decide +kernel
theorem dX12_is_37 : decode cX12_is 37 = .ok (.if_icmp .ge 38, 3) := by decide +kernel
theorem dX12_is_40 : decode cX12_is 40 = .ok (.iload_n 2, 1) := by decide +kernel
theorem dX12_is_41 : decode cX12_is 41 = .ok (.ifCond .eq 34, 3) := by decide +kernel
theorem dX12_is_44 : decode cX12_is 44 = .ok (.aload_n 0, 1) := by decide +kernel
theorem dX12_is_45 : decode cX12_is 45 = .ok (.getfield 16, 3) := by decide +kernel
theorem dX12_is_48 : decode cX12_is 48 = .ok (.aload_n 0, 1) := by decide +kernel
theorem dX12_is_49 : decode cX12_is 49 = .ok (.getfield 7, 3) := by decide +kernel
theorem dX12_is_52 : decode cX12_is 52 = .ok (.iload_n 3, 1) := by decide +kernel
theorem dX12_is_53 : decode cX12_is 53 = .ok (.iadd, 1) := by decide +kernel
theorem dX12_is_54 : decode cX12_is 54 = .ok (.baload, 1) := by decide +kernel
theorem dX12_is_55 : decode cX12_is 55 = .ok (.aload_n 1, 1) := by decide +kernel
theorem dX12_is_56 : decode cX12_is 56 = .ok (.iload_n 3, 1) := by decide +kernel
theorem dX12_is_57 : decode cX12_is 57 = .ok (.invokevirtual 45, 3) := by decide +kernel
theorem dX12_is_60 : decode cX12_is 60 = .ok (.if_icmp .ne 7, 3) := by decide +kernel
theorem dX12_is_63 : decode cX12_is 63 = .ok (.iconst 1, 1) := by decide +kernel
theorem dX12_is_64 : decode cX12_is 64 = .ok (.goto 4, 3) := by decide +kernel
theorem dX12_is_67 : decode cX12_is 67 = .ok (.iconst 0, 1) := by decide +kernel
theorem dX12_is_68 : decode cX12_is 68 = .ok (.istore_n 2, 1) := by decide +kernel
theorem dX12_is_69 : decode cX12_is 69 = .ok (.iinc 3 1, 3) := by decide +kernel
theorem dX12_is_72 : decode cX12_is 72 = .ok (.goto (-40), 3) := by decide +kernel
theorem dX12_is_75 : decode cX12_is 75 = .ok (.iload_n 2, 1) := by decide +kernel
theorem dX12_is_76 : decode cX12_is 76 = .ok (.ireturn, 1) := by decide +kernel
theorem dX12_number_0 : decode cX12_number 0 = .ok (.aload_n 0, 1) := by decide +kernel
theorem dX12_number_1 : decode cX12_number 1 = .ok (.getfield 27, 3) := by decide +kernel
theorem dX12_number_4 : decode cX12_number 4 = .ok (.iconst 2, 1) := by decide +kernel
theorem dX12_number_5 : decode cX12_number 5 = .ok (.if_icmp .eq 9, 3) := by decide +kernel
theorem dX12_number_8 : decode cX12_number 8 = .ok (.aload_n 0, 1) := by decide +kernel
theorem dX12_number_9 : decode cX12_number 9 = .ok (.iconst 1, 1) := by decide +kernel
theorem dX12_number_10 : decode cX12_number 10 = .ok (.invokevirtual 49, 3) := by decide +kernel
theorem dX12_number_13 : decode cX12_number 13 = .ok (.ireturn, 1) := by decide +kernel
theorem dX12_number_14 : decode cX12_number 14 = .ok (.aload_n 0, 1) := by decide +kernel
theorem dX12_number_15 : decode cX12_number 15 = .ok (.getfield 37, 3) := by decide +kernel
theorem dX12_number_18 : decode cX12_number 18 = .ok (.i2l, 1) := by decide +kernel
theorem dX12_number_19 : decode cX12_number 19 = .ok (.iload_n 1, 1) := by decide +kernel
theorem dX12_number_20 : decode cX12_number 20 = .ok (.i2l, 1) := by decide +kernel
theorem dX12_number_21 : decode cX12_number 21 = .ok (.iload_n 2, 1) := by decide +kernel
theorem dX12_number_22 : decode cX12_number 22 = .ok (.i2l, 1) := by decide +kernel
theorem dX12_number_23 : decode cX12_number 23 = .ok (.invokestatic 52, 3) := by decide +kernel
theorem dX12_number_26 : decode cX12_number 26 = .ok (.ifCond .ne 9, 3) := by decide +kernel
theorem dX12_number_29 : decode cX12_number 29 = .ok (.aload_n 0, 1) := by decide +kernel
theorem dX12_number_30 : decode cX12_number 30 = .ok (.iconst 2, 1) := by decide +kernel
theorem dX12_number_31 : decode cX12_number 31 = .ok (.invokevirtual 49, 3) := by decide +kernel
theorem dX12_number_34 : decode cX12_number 34 = .ok (.ireturn, 1) := by decide +kernel
theorem dX12_number_35 : decode cX12_number 35 = .ok (.aload_n 0, 1) := by decide +kernel
theorem dX12_number_36 : decode cX12_number 36 = .ok (.aload_n 0, 1) := by decide +kernel
theorem dX12_number_37 : decode cX12_number 37 = .ok (.getfield 37, 3) := by decide +kernel
theorem dX12_number_40 : decode cX12_number 40 = .ok (.putfield 56, 3) := by decide +kernel
theorem dX12_number_43 : decode cX12_number 43 = .ok (.aload_n 0, 1) := by decide +kernel
theorem dX12_number_44 : decode cX12_number 44 = .ok (.invokevirtual 59, 3) := by decide +kernel
theorem dX12_number_47 : decode cX12_number 47 = .ok (.iconst 1, 1) := by decide +kernel
theorem dX12_number_48 : decode cX12_number 48 = .ok (.ireturn, 1) := by decide +kernel
theorem dX12_name_0 : decode cX12_name 0 = .ok (.lconst 0, 1) := by decide +kernel
theorem dX12_name_1 : decode cX12_name 1 = .ok (.lstore_n 1, 1) := by decide +kernel
theorem dX12_name_2 : decode cX12_name 2 = .ok (.aload_n 0, 1) := by decide +kernel
theorem dX12_name_3 : decode cX12_name 3 = .ok (.getfield 7, 3) := by decide +kernel
theorem dX12_name_6 : decode cX12_name 6 = .ok (.istore_n 3, 1) := by decide +kernel
theorem dX12_name_7 : decode cX12_name 7 = .ok (.iload_n 3, 1) := by decide +kernel
theorem dX12_name_8 : decode cX12_name 8 = .ok (.aload_n 0, 1) := by decide +kernel
theorem dX12_name_9 : decode cX12_name 9 = .ok (.getfield 20, 3) := by decide +kernel
theorem dX12_name_12 : decode cX12_name 12 = .ok (.if_icmp .ge 23, 3) := by decide +kernel
theorem dX12_name_15 : decode cX12_name 15 = .ok (.lload_n 1, 1) := by decide +kernel
theorem dX12_name_16 : decode cX12_name 16 = .ok (.iconst 5, 1) := by decide +kernel
theorem dX12_name_17 : decode cX12_name 17 = .ok (.lshl, 1) := by decide +kernel
theorem dX12_name_18 : decode cX12_name 18 = .ok (.aload_n 0, 1) := by decide +kernel
theorem dX12_name_19 : decode cX12_name 19 = .ok (.iload_n 3, 1) := by decide +kernel
theorem dX12_name_20 : decode cX12_name 20 = .ok (.invokevirtual 23, 3) := by decide +kernel
theorem dX12_name_23 : decode cX12_name 23 = .ok (.bipush 96, 2) := by decide +kernel
theorem dX12_name_25 : decode cX12_name 25 = .ok (.isub, 1) := by decide +kernel
theorem dX12_name_26 : decode cX12_name 26 = .ok (.i2l, 1) := by decide +kernel
theorem dX12_name_27 : decode cX12_name 27 = .ok (.lor, 1) := by decide +kernel
theorem dX12_name_28 : decode cX12_name 28 = .ok (.lstore_n 1, 1) := by decide +kernel
theorem dX12_name_29 : decode cX12_name 29 = .ok (.iinc 3 1, 3) := by decide +kernel
theorem dX12_name_32 : decode cX12_name 32 = .ok (.goto (-25), 3) := by decide +kernel
theorem dX12_name_35 : decode cX12_name 35 = .ok (.lload_n 1, 1) := by decide +kernel
theorem dX12_name_36 : decode cX12_name 36 = .ok (.lreturn, 1) := by decide +kernel
theorem dX12_find_0 : decode cX12_find 0 = .ok (.iconst 0, 1) := by decide +kernel
theorem dX12_find_1 : decode cX12_find 1 = .ok (.istore_n 3, 1) := by decide +kernel
theorem dX12_find_2 : decode cX12_find 2 = .ok (.iload_n 3, 1) := by decide +kernel
theorem dX12_find_3 : decode cX12_find 3 = .ok (.iload_n 2, 1) := by decide +kernel
theorem dX12_find_4 : decode cX12_find 4 = .ok (.if_icmp .ge 22, 3) := by decide +kernel
theorem dX12_find_7 : decode cX12_find 7 = .ok (.aload_n 1, 1) := by decide +kernel
theorem dX12_find_8 : decode cX12_find 8 = .ok (.iload_n 3, 1) := by decide +kernel
theorem dX12_find_9 : decode cX12_find 9 = .ok (.laload, 1) := by decide +kernel
theorem dX12_find_10 : decode cX12_find 10 = .ok (.aload_n 0, 1) := by decide +kernel
theorem dX12_find_11 : decode cX12_find 11 = .ok (.invokevirtual 63, 3) := by decide +kernel
theorem dX12_find_14 : decode cX12_find 14 = .ok (.lcmp, 1) := by decide +kernel
theorem dX12_find_15 : decode cX12_find 15 = .ok (.ifCond .ne 5, 3) := by decide +kernel
theorem dX12_find_18 : decode cX12_find 18 = .ok (.iload_n 3, 1) := by decide +kernel
theorem dX12_find_19 : decode cX12_find 19 = .ok (.ireturn, 1) := by decide +kernel
theorem dX12_find_20 : decode cX12_find 20 = .ok (.iinc 3 1, 3) := by decide +kernel
theorem dX12_find_23 : decode cX12_find 23 = .ok (.goto (-21), 3) := by decide +kernel
theorem dX12_find_26 : decode cX12_find 26 = .ok (.iconst (-1), 1) := by decide +kernel
theorem dX12_find_27 : decode cX12_find 27 = .ok (.ireturn, 1) := by decide +kernel
theorem dX12_fresh_0 : decode cX12_fresh 0 = .ok (.aload_n 0, 1) := by decide +kernel
theorem dX12_fresh_1 : decode cX12_fresh 1 = .ok (.getfield 27, 3) := by decide +kernel
theorem dX12_fresh_4 : decode cX12_fresh 4 = .ok (.iconst 1, 1) := by decide +kernel
theorem dX12_fresh_5 : decode cX12_fresh 5 = .ok (.if_icmp .eq 9, 3) := by decide +kernel
theorem dX12_fresh_8 : decode cX12_fresh 8 = .ok (.aload_n 0, 1) := by decide +kernel
theorem dX12_fresh_9 : decode cX12_fresh 9 = .ok (.iconst 1, 1) := by decide +kernel
theorem dX12_fresh_10 : decode cX12_fresh 10 = .ok (.invokevirtual 49, 3) := by decide +kernel
theorem dX12_fresh_13 : decode cX12_fresh 13 = .ok (.ireturn, 1) := by decide +kernel
theorem dX12_fresh_14 : decode cX12_fresh 14 = .ok (.aload_n 0, 1) := by decide +kernel
theorem dX12_fresh_15 : decode cX12_fresh 15 = .ok (.aload_n 1, 1) := by decide +kernel
theorem dX12_fresh_16 : decode cX12_fresh 16 = .ok (.iload_n 2, 1) := by decide +kernel
theorem dX12_fresh_17 : decode cX12_fresh 17 = .ok (.invokevirtual 67, 3) := by decide +kernel
theorem dX12_fresh_20 : decode cX12_fresh 20 = .ok (.iconst (-1), 1) := by decide +kernel
theorem dX12_fresh_21 : decode cX12_fresh 21 = .ok (.if_icmp .eq 9, 3) := by decide +kernel
theorem dX12_fresh_24 : decode cX12_fresh 24 = .ok (.aload_n 0, 1) := by decide +kernel
theorem dX12_fresh_25 : decode cX12_fresh 25 = .ok (.iconst 3, 1) := by decide +kernel
theorem dX12_fresh_26 : decode cX12_fresh 26 = .ok (.invokevirtual 49, 3) := by decide +kernel
theorem dX12_fresh_29 : decode cX12_fresh 29 = .ok (.ireturn, 1) := by decide +kernel
theorem dX12_fresh_30 : decode cX12_fresh 30 = .ok (.aload_n 1, 1) := by decide +kernel
theorem dX12_fresh_31 : decode cX12_fresh 31 = .ok (.iload_n 2, 1) := by decide +kernel
theorem dX12_fresh_32 : decode cX12_fresh 32 = .ok (.aload_n 0, 1) := by decide +kernel
theorem dX12_fresh_33 : decode cX12_fresh 33 = .ok (.invokevirtual 63, 3) := by decide +kernel
theorem dX12_fresh_36 : decode cX12_fresh 36 = .ok (.lastore, 1) := by decide +kernel
theorem dX12_fresh_37 : decode cX12_fresh 37 = .ok (.aload_n 0, 1) := by decide +kernel
theorem dX12_fresh_38 : decode cX12_fresh 38 = .ok (.invokevirtual 59, 3) := by decide +kernel
theorem dX12_fresh_41 : decode cX12_fresh 41 = .ok (.iconst 1, 1) := by decide +kernel
theorem dX12_fresh_42 : decode cX12_fresh 42 = .ok (.ireturn, 1) := by decide +kernel
theorem dX12_usual_0 : decode cX12_usual 0 = .ok (.iload_n 0, 1) := by decide +kernel
theorem dX12_usual_1 : decode cX12_usual 1 = .ok (.tableswitch 71 0 7 #[47, 51, 54, 57, 60, 64, 66, 69], 47) := by decide +kernel
theorem dX12_usual_48 : decode cX12_usual 48 = .ok (.sipush 200, 3) := by decide +kernel
theorem dX12_usual_51 : decode cX12_usual 51 = .ok (.ireturn, 1) := by decide +kernel
theorem dX12_usual_52 : decode cX12_usual 52 = .ok (.bipush 100, 2) := by decide +kernel
theorem dX12_usual_54 : decode cX12_usual 54 = .ok (.ireturn, 1) := by decide +kernel
theorem dX12_usual_55 : decode cX12_usual 55 = .ok (.bipush 10, 2) := by decide +kernel
theorem dX12_usual_57 : decode cX12_usual 57 = .ok (.ireturn, 1) := by decide +kernel
theorem dX12_usual_58 : decode cX12_usual 58 = .ok (.bipush 6, 2) := by decide +kernel
theorem dX12_usual_60 : decode cX12_usual 60 = .ok (.ireturn, 1) := by decide +kernel
theorem dX12_usual_61 : decode cX12_usual 61 = .ok (.sipush 200, 3) := by decide +kernel
theorem dX12_usual_64 : decode cX12_usual 64 = .ok (.ireturn, 1) := by decide +kernel
theorem dX12_usual_65 : decode cX12_usual 65 = .ok (.iconst 2, 1) := by decide +kernel
theorem dX12_usual_66 : decode cX12_usual 66 = .ok (.ireturn, 1) := by decide +kernel
theorem dX12_usual_67 : decode cX12_usual 67 = .ok (.bipush 60, 2) := by decide +kernel
theorem dX12_usual_69 : decode cX12_usual 69 = .ok (.ireturn, 1) := by decide +kernel
theorem dX12_usual_70 : decode cX12_usual 70 = .ok (.iconst 5, 1) := by decide +kernel
theorem dX12_usual_71 : decode cX12_usual 71 = .ok (.ireturn, 1) := by decide +kernel
theorem dX12_usual_72 : decode cX12_usual 72 = .ok (.iconst 0, 1) := by decide +kernel
theorem dX12_usual_73 : decode cX12_usual 73 = .ok (.ireturn, 1) := by decide +kernel
theorem dX12_least_0 : decode cX12_least 0 = .ok (.iload_n 0, 1) := by decide +kernel
theorem dX12_least_1 : decode cX12_least 1 = .ok (.ifCond .eq 9, 3) := by decide +kernel
theorem dX12_least_4 : decode cX12_least 4 = .ok (.iload_n 0, 1) := by decide +kernel
theorem dX12_least_5 : decode cX12_least 5 = .ok (.bipush 6, 2) := by decide +kernel
theorem dX12_least_7 : decode cX12_least 7 = .ok (.if_icmp .ne 8, 3) := by decide +kernel
theorem dX12_least_10 : decode cX12_least 10 = .ok (.bipush 10, 2) := by decide +kernel
theorem dX12_least_12 : decode cX12_least 12 = .ok (.goto 24, 3) := by decide +kernel
theorem dX12_least_15 : decode cX12_least 15 = .ok (.iload_n 0, 1) := by decide +kernel
theorem dX12_least_16 : decode cX12_least 16 = .ok (.iconst 2, 1) := by decide +kernel
theorem dX12_least_17 : decode cX12_least 17 = .ok (.if_icmp .eq 14, 3) := by decide +kernel
theorem dX12_least_20 : decode cX12_least 20 = .ok (.iload_n 0, 1) := by decide +kernel
theorem dX12_least_21 : decode cX12_least 21 = .ok (.iconst 3, 1) := by decide +kernel
theorem dX12_least_22 : decode cX12_least 22 = .ok (.if_icmp .eq 9, 3) := by decide +kernel
theorem dX12_least_25 : decode cX12_least 25 = .ok (.iload_n 0, 1) := by decide +kernel
theorem dX12_least_26 : decode cX12_least 26 = .ok (.bipush 7, 2) := by decide +kernel
theorem dX12_least_28 : decode cX12_least 28 = .ok (.if_icmp .ne 7, 3) := by decide +kernel
theorem dX12_least_31 : decode cX12_least 31 = .ok (.iconst 1, 1) := by decide +kernel
theorem dX12_least_32 : decode cX12_least 32 = .ok (.goto 4, 3) := by decide +kernel
theorem dX12_least_35 : decode cX12_least 35 = .ok (.iconst 0, 1) := by decide +kernel
theorem dX12_least_36 : decode cX12_least 36 = .ok (.ireturn, 1) := by decide +kernel
theorem dX12_greatest_0 : decode cX12_greatest 0 = .ok (.iload_n 0, 1) := by decide +kernel
theorem dX12_greatest_1 : decode cX12_greatest 1 = .ok (.tableswitch 68 0 6 #[43, 47, 51, 54, 57, 61, 64], 43) := by decide +kernel
theorem dX12_greatest_44 : decode cX12_greatest 44 = .ok (.sipush 400, 3) := by decide +kernel
theorem dX12_greatest_47 : decode cX12_greatest 47 = .ok (.ireturn, 1) := by decide +kernel
theorem dX12_greatest_48 : decode cX12_greatest 48 = .ok (.sipush 300, 3) := by decide +kernel
theorem dX12_greatest_51 : decode cX12_greatest 51 = .ok (.ireturn, 1) := by decide +kernel
theorem dX12_greatest_52 : decode cX12_greatest 52 = .ok (.bipush 99, 2) := by decide +kernel
theorem dX12_greatest_54 : decode cX12_greatest 54 = .ok (.ireturn, 1) := by decide +kernel
theorem dX12_greatest_55 : decode cX12_greatest 55 = .ok (.bipush 40, 2) := by decide +kernel
theorem dX12_greatest_57 : decode cX12_greatest 57 = .ok (.ireturn, 1) := by decide +kernel
theorem dX12_greatest_58 : decode cX12_greatest 58 = .ok (.sipush 700, 3) := by decide +kernel
theorem dX12_greatest_61 : decode cX12_greatest 61 = .ok (.ireturn, 1) := by decide +kernel
theorem dX12_greatest_62 : decode cX12_greatest 62 = .ok (.bipush 9, 2) := by decide +kernel
theorem dX12_greatest_64 : decode cX12_greatest 64 = .ok (.ireturn, 1) := by decide +kernel
theorem dX12_greatest_65 : decode cX12_greatest 65 = .ok (.sipush 200, 3) := by decide +kernel
theorem dX12_greatest_68 : decode cX12_greatest 68 = .ok (.ireturn, 1) := by decide +kernel
theorem dX12_greatest_69 : decode cX12_greatest 69 = .ok (.bipush 50, 2) := by decide +kernel
theorem dX12_greatest_71 : decode cX12_greatest 71 = .ok (.ireturn, 1) := by decide +kernel
theorem dX12_wordAt_0 : decode cX12_wordAt 0 = .ok (.aload_n 0, 1) := by decide +kernel
theorem dX12_wordAt_1 : decode cX12_wordAt 1 = .ok (.ldc 71, 2) := by decide +kernel
theorem dX12_wordAt_3 : decode cX12_wordAt 3 = .ok (.invokevirtual 73, 3) := by decide +kernel
theorem dX12_wordAt_6 : decode cX12_wordAt 6 = .ok (.ifCond .eq 7, 3) := by decide +kernel
theorem dX12_wordAt_9 : decode cX12_wordAt 9 = .ok (.iconst 0, 1) := by decide +kernel
theorem dX12_wordAt_10 : decode cX12_wordAt 10 = .ok (.goto 125, 3) := by decide +kernel
theorem dX12_wordAt_13 : decode cX12_wordAt 13 = .ok (.aload_n 0, 1) := by decide +kernel
theorem dX12_wordAt_14 : decode cX12_wordAt 14 = .ok (.ldc 77, 2) := by decide +kernel
theorem dX12_wordAt_16 : decode cX12_wordAt 16 = .ok (.invokevirtual 73, 3) := by decide +kernel
theorem dX12_wordAt_19 : decode cX12_wordAt 19 = .ok (.ifCond .eq 7, 3) := by decide +kernel
theorem dX12_wordAt_22 : decode cX12_wordAt 22 = .ok (.iconst 1, 1) := by decide +kernel
theorem dX12_wordAt_23 : decode cX12_wordAt 23 = .ok (.goto 112, 3) := by decide +kernel
theorem dX12_wordAt_26 : decode cX12_wordAt 26 = .ok (.aload_n 0, 1) := by decide +kernel
theorem dX12_wordAt_27 : decode cX12_wordAt 27 = .ok (.ldc 79, 2) := by decide +kernel
theorem dX12_wordAt_29 : decode cX12_wordAt 29 = .ok (.invokevirtual 73, 3) := by decide +kernel
theorem dX12_wordAt_32 : decode cX12_wordAt 32 = .ok (.ifCond .eq 7, 3) := by decide +kernel
theorem dX12_wordAt_35 : decode cX12_wordAt 35 = .ok (.iconst 2, 1) := by decide +kernel
theorem dX12_wordAt_36 : decode cX12_wordAt 36 = .ok (.goto 99, 3) := by decide +kernel
theorem dX12_wordAt_39 : decode cX12_wordAt 39 = .ok (.aload_n 0, 1) := by decide +kernel
theorem dX12_wordAt_40 : decode cX12_wordAt 40 = .ok (.ldc 81, 2) := by decide +kernel
theorem dX12_wordAt_42 : decode cX12_wordAt 42 = .ok (.invokevirtual 73, 3) := by decide +kernel
theorem dX12_wordAt_45 : decode cX12_wordAt 45 = .ok (.ifCond .eq 7, 3) := by decide +kernel
theorem dX12_wordAt_48 : decode cX12_wordAt 48 = .ok (.iconst 3, 1) := by decide +kernel
theorem dX12_wordAt_49 : decode cX12_wordAt 49 = .ok (.goto 86, 3) := by decide +kernel
theorem dX12_wordAt_52 : decode cX12_wordAt 52 = .ok (.aload_n 0, 1) := by decide +kernel
theorem dX12_wordAt_53 : decode cX12_wordAt 53 = .ok (.ldc 83, 2) := by decide +kernel
theorem dX12_wordAt_55 : decode cX12_wordAt 55 = .ok (.invokevirtual 73, 3) := by decide +kernel
theorem dX12_wordAt_58 : decode cX12_wordAt 58 = .ok (.ifCond .eq 7, 3) := by decide +kernel
theorem dX12_wordAt_61 : decode cX12_wordAt 61 = .ok (.iconst 4, 1) := by decide +kernel
theorem dX12_wordAt_62 : decode cX12_wordAt 62 = .ok (.goto 73, 3) := by decide +kernel
theorem dX12_wordAt_65 : decode cX12_wordAt 65 = .ok (.aload_n 0, 1) := by decide +kernel
theorem dX12_wordAt_66 : decode cX12_wordAt 66 = .ok (.ldc 85, 2) := by decide +kernel
theorem dX12_wordAt_68 : decode cX12_wordAt 68 = .ok (.invokevirtual 73, 3) := by decide +kernel
theorem dX12_wordAt_71 : decode cX12_wordAt 71 = .ok (.ifCond .eq 7, 3) := by decide +kernel
theorem dX12_wordAt_74 : decode cX12_wordAt 74 = .ok (.iconst 5, 1) := by decide +kernel
theorem dX12_wordAt_75 : decode cX12_wordAt 75 = .ok (.goto 60, 3) := by decide +kernel
theorem dX12_wordAt_78 : decode cX12_wordAt 78 = .ok (.aload_n 0, 1) := by decide +kernel
theorem dX12_wordAt_79 : decode cX12_wordAt 79 = .ok (.ldc 87, 2) := by decide +kernel
theorem dX12_wordAt_81 : decode cX12_wordAt 81 = .ok (.invokevirtual 73, 3) := by decide +kernel
theorem dX12_wordAt_84 : decode cX12_wordAt 84 = .ok (.ifCond .eq 8, 3) := by decide +kernel
theorem dX12_wordAt_87 : decode cX12_wordAt 87 = .ok (.bipush 6, 2) := by decide +kernel
theorem dX12_wordAt_89 : decode cX12_wordAt 89 = .ok (.goto 46, 3) := by decide +kernel
theorem dX12_wordAt_92 : decode cX12_wordAt 92 = .ok (.aload_n 0, 1) := by decide +kernel
theorem dX12_wordAt_93 : decode cX12_wordAt 93 = .ok (.ldc 89, 2) := by decide +kernel
theorem dX12_wordAt_95 : decode cX12_wordAt 95 = .ok (.invokevirtual 73, 3) := by decide +kernel
theorem dX12_wordAt_98 : decode cX12_wordAt 98 = .ok (.ifCond .eq 8, 3) := by decide +kernel
theorem dX12_wordAt_101 : decode cX12_wordAt 101 = .ok (.bipush 7, 2) := by decide +kernel
theorem dX12_wordAt_103 : decode cX12_wordAt 103 = .ok (.goto 32, 3) := by decide +kernel
theorem dX12_wordAt_106 : decode cX12_wordAt 106 = .ok (.aload_n 0, 1) := by decide +kernel
theorem dX12_wordAt_107 : decode cX12_wordAt 107 = .ok (.ldc 91, 2) := by decide +kernel
theorem dX12_wordAt_109 : decode cX12_wordAt 109 = .ok (.invokevirtual 73, 3) := by decide +kernel
theorem dX12_wordAt_112 : decode cX12_wordAt 112 = .ok (.ifCond .eq 8, 3) := by decide +kernel
theorem dX12_wordAt_115 : decode cX12_wordAt 115 = .ok (.bipush 8, 2) := by decide +kernel
theorem dX12_wordAt_117 : decode cX12_wordAt 117 = .ok (.goto 18, 3) := by decide +kernel
theorem dX12_wordAt_120 : decode cX12_wordAt 120 = .ok (.aload_n 0, 1) := by decide +kernel
theorem dX12_wordAt_121 : decode cX12_wordAt 121 = .ok (.ldc 93, 2) := by decide +kernel
theorem dX12_wordAt_123 : decode cX12_wordAt 123 = .ok (.invokevirtual 73, 3) := by decide +kernel
theorem dX12_wordAt_126 : decode cX12_wordAt 126 = .ok (.ifCond .eq 8, 3) := by decide +kernel
theorem dX12_wordAt_129 : decode cX12_wordAt 129 = .ok (.bipush 9, 2) := by decide +kernel
theorem dX12_wordAt_131 : decode cX12_wordAt 131 = .ok (.goto 4, 3) := by decide +kernel
theorem dX12_wordAt_134 : decode cX12_wordAt 134 = .ok (.iconst (-1), 1) := by decide +kernel
theorem dX12_wordAt_135 : decode cX12_wordAt 135 = .ok (.ireturn, 1) := by decide +kernel
theorem dX12_readHut_0 : decode cX12_readHut 0 = .ok (.aload_n 0, 1) := by decide +kernel
theorem dX12_readHut_1 : decode cX12_readHut 1 = .ok (.getfield 95, 3) := by decide +kernel
theorem dX12_readHut_4 : decode cX12_readHut 4 = .ok (.iconst 5, 1) := by decide +kernel
theorem dX12_readHut_5 : decode cX12_readHut 5 = .ok (.if_icmp .ne 9, 3) := by decide +kernel
theorem dX12_readHut_8 : decode cX12_readHut 8 = .ok (.aload_n 0, 1) := by decide +kernel
theorem dX12_readHut_9 : decode cX12_readHut 9 = .ok (.iconst 4, 1) := by decide +kernel
theorem dX12_readHut_10 : decode cX12_readHut 10 = .ok (.invokevirtual 49, 3) := by decide +kernel
theorem dX12_readHut_13 : decode cX12_readHut 13 = .ok (.ireturn, 1) := by decide +kernel
theorem dX12_readHut_14 : decode cX12_readHut 14 = .ok (.aload_n 0, 1) := by decide +kernel
theorem dX12_readHut_15 : decode cX12_readHut 15 = .ok (.invokevirtual 59, 3) := by decide +kernel
theorem dX12_readHut_18 : decode cX12_readHut 18 = .ok (.aload_n 0, 1) := by decide +kernel
theorem dX12_readHut_19 : decode cX12_readHut 19 = .ok (.aload_n 0, 1) := by decide +kernel
theorem dX12_readHut_20 : decode cX12_readHut 20 = .ok (.getfield 98, 3) := by decide +kernel
theorem dX12_readHut_23 : decode cX12_readHut 23 = .ok (.aload_n 0, 1) := by decide +kernel
theorem dX12_readHut_24 : decode cX12_readHut 24 = .ok (.getfield 95, 3) := by decide +kernel
theorem dX12_readHut_27 : decode cX12_readHut 27 = .ok (.invokevirtual 102, 3) := by decide +kernel
theorem dX12_readHut_30 : decode cX12_readHut 30 = .ok (.ifCond .eq 14, 3) := by decide +kernel
theorem dX12_readHut_33 : decode cX12_readHut 33 = .ok (.aload_n 0, 1) := by decide +kernel
theorem dX12_readHut_34 : decode cX12_readHut 34 = .ok (.iconst 0, 1) := by decide +kernel
theorem dX12_readHut_35 : decode cX12_readHut 35 = .ok (.sipush 400, 3) := by decide +kernel
theorem dX12_readHut_38 : decode cX12_readHut 38 = .ok (.invokevirtual 106, 3) := by decide +kernel
theorem dX12_readHut_41 : decode cX12_readHut 41 = .ok (.ifCond .ne 5, 3) := by decide +kernel
theorem dX12_readHut_44 : decode cX12_readHut 44 = .ok (.iconst 0, 1) := by decide +kernel
theorem dX12_readHut_45 : decode cX12_readHut 45 = .ok (.ireturn, 1) := by decide +kernel
theorem dX12_readHut_46 : decode cX12_readHut 46 = .ok (.aload_n 0, 1) := by decide +kernel
theorem dX12_readHut_47 : decode cX12_readHut 47 = .ok (.getfield 110, 3) := by decide +kernel
theorem dX12_readHut_50 : decode cX12_readHut 50 = .ok (.aload_n 0, 1) := by decide +kernel
theorem dX12_readHut_51 : decode cX12_readHut 51 = .ok (.getfield 95, 3) := by decide +kernel
theorem dX12_readHut_54 : decode cX12_readHut 54 = .ok (.aload_n 0, 1) := by decide +kernel
theorem dX12_readHut_55 : decode cX12_readHut 55 = .ok (.getfield 56, 3) := by decide +kernel
theorem dX12_readHut_58 : decode cX12_readHut 58 = .ok (.iastore, 1) := by decide +kernel
theorem dX12_readHut_59 : decode cX12_readHut 59 = .ok (.aload_n 0, 1) := by decide +kernel
theorem dX12_readHut_60 : decode cX12_readHut 60 = .ok (.iconst 1, 1) := by decide +kernel
theorem dX12_readHut_61 : decode cX12_readHut 61 = .ok (.sipush 300, 3) := by decide +kernel
theorem dX12_readHut_64 : decode cX12_readHut 64 = .ok (.invokevirtual 106, 3) := by decide +kernel
theorem dX12_readHut_67 : decode cX12_readHut 67 = .ok (.ifCond .ne 5, 3) := by decide +kernel
theorem dX12_readHut_70 : decode cX12_readHut 70 = .ok (.iconst 0, 1) := by decide +kernel
theorem dX12_readHut_71 : decode cX12_readHut 71 = .ok (.ireturn, 1) := by decide +kernel
theorem dX12_readHut_72 : decode cX12_readHut 72 = .ok (.aload_n 0, 1) := by decide +kernel
theorem dX12_readHut_73 : decode cX12_readHut 73 = .ok (.getfield 114, 3) := by decide +kernel
theorem dX12_readHut_76 : decode cX12_readHut 76 = .ok (.aload_n 0, 1) := by decide +kernel
theorem dX12_readHut_77 : decode cX12_readHut 77 = .ok (.getfield 95, 3) := by decide +kernel
theorem dX12_readHut_80 : decode cX12_readHut 80 = .ok (.aload_n 0, 1) := by decide +kernel
theorem dX12_readHut_81 : decode cX12_readHut 81 = .ok (.getfield 56, 3) := by decide +kernel
theorem dX12_readHut_84 : decode cX12_readHut 84 = .ok (.iastore, 1) := by decide +kernel
theorem dX12_readHut_85 : decode cX12_readHut 85 = .ok (.aload_n 0, 1) := by decide +kernel
theorem dX12_readHut_86 : decode cX12_readHut 86 = .ok (.iconst 1, 1) := by decide +kernel
theorem dX12_readHut_87 : decode cX12_readHut 87 = .ok (.bipush 40, 2) := by decide +kernel
theorem dX12_readHut_89 : decode cX12_readHut 89 = .ok (.invokevirtual 106, 3) := by decide +kernel
theorem dX12_readHut_92 : decode cX12_readHut 92 = .ok (.ifCond .ne 5, 3) := by decide +kernel
theorem dX12_readHut_95 : decode cX12_readHut 95 = .ok (.iconst 0, 1) := by decide +kernel
theorem dX12_readHut_96 : decode cX12_readHut 96 = .ok (.ireturn, 1) := by decide +kernel
theorem dX12_readHut_97 : decode cX12_readHut 97 = .ok (.aload_n 0, 1) := by decide +kernel
theorem dX12_readHut_98 : decode cX12_readHut 98 = .ok (.getfield 117, 3) := by decide +kernel
theorem dX12_readHut_101 : decode cX12_readHut 101 = .ok (.aload_n 0, 1) := by decide +kernel
theorem dX12_readHut_102 : decode cX12_readHut 102 = .ok (.getfield 95, 3) := by decide +kernel
theorem dX12_readHut_105 : decode cX12_readHut 105 = .ok (.aload_n 0, 1) := by decide +kernel
theorem dX12_readHut_106 : decode cX12_readHut 106 = .ok (.getfield 56, 3) := by decide +kernel
theorem dX12_readHut_109 : decode cX12_readHut 109 = .ok (.iastore, 1) := by decide +kernel
theorem dX12_readHut_110 : decode cX12_readHut 110 = .ok (.aload_n 0, 1) := by decide +kernel
theorem dX12_readHut_111 : decode cX12_readHut 111 = .ok (.getfield 120, 3) := by decide +kernel
theorem dX12_readHut_114 : decode cX12_readHut 114 = .ok (.aload_n 0, 1) := by decide +kernel
theorem dX12_readHut_115 : decode cX12_readHut 115 = .ok (.getfield 95, 3) := by decide +kernel
theorem dX12_readHut_118 : decode cX12_readHut 118 = .ok (.iconst (-1), 1) := by decide +kernel
theorem dX12_readHut_119 : decode cX12_readHut 119 = .ok (.iastore, 1) := by decide +kernel
theorem dX12_readHut_120 : decode cX12_readHut 120 = .ok (.aload_n 0, 1) := by decide +kernel
theorem dX12_readHut_121 : decode cX12_readHut 121 = .ok (.dup, 1) := by decide +kernel
theorem dX12_readHut_122 : decode cX12_readHut 122 = .ok (.getfield 95, 3) := by decide +kernel
theorem dX12_readHut_125 : decode cX12_readHut 125 = .ok (.iconst 1, 1) := by decide +kernel
theorem dX12_readHut_126 : decode cX12_readHut 126 = .ok (.iadd, 1) := by decide +kernel
theorem dX12_readHut_127 : decode cX12_readHut 127 = .ok (.putfield 95, 3) := by decide +kernel
theorem dX12_readHut_130 : decode cX12_readHut 130 = .ok (.iconst 1, 1) := by decide +kernel
theorem dX12_readHut_131 : decode cX12_readHut 131 = .ok (.ireturn, 1) := by decide +kernel
theorem dX12_readGarden_0 : decode cX12_readGarden 0 = .ok (.aload_n 0, 1) := by decide +kernel
theorem dX12_readGarden_1 : decode cX12_readGarden 1 = .ok (.getfield 123, 3) := by decide +kernel
theorem dX12_readGarden_4 : decode cX12_readGarden 4 = .ok (.iconst 4, 1) := by decide +kernel
theorem dX12_readGarden_5 : decode cX12_readGarden 5 = .ok (.if_icmp .ne 9, 3) := by decide +kernel
theorem dX12_readGarden_8 : decode cX12_readGarden 8 = .ok (.aload_n 0, 1) := by decide +kernel
theorem dX12_readGarden_9 : decode cX12_readGarden 9 = .ok (.iconst 4, 1) := by decide +kernel
theorem dX12_readGarden_10 : decode cX12_readGarden 10 = .ok (.invokevirtual 49, 3) := by decide +kernel
theorem dX12_readGarden_13 : decode cX12_readGarden 13 = .ok (.ireturn, 1) := by decide +kernel
theorem dX12_readGarden_14 : decode cX12_readGarden 14 = .ok (.aload_n 0, 1) := by decide +kernel
theorem dX12_readGarden_15 : decode cX12_readGarden 15 = .ok (.invokevirtual 59, 3) := by decide +kernel
theorem dX12_readGarden_18 : decode cX12_readGarden 18 = .ok (.aload_n 0, 1) := by decide +kernel
theorem dX12_readGarden_19 : decode cX12_readGarden 19 = .ok (.aload_n 0, 1) := by decide +kernel
theorem dX12_readGarden_20 : decode cX12_readGarden 20 = .ok (.getfield 126, 3) := by decide +kernel
theorem dX12_readGarden_23 : decode cX12_readGarden 23 = .ok (.aload_n 0, 1) := by decide +kernel
theorem dX12_readGarden_24 : decode cX12_readGarden 24 = .ok (.getfield 123, 3) := by decide +kernel
theorem dX12_readGarden_27 : decode cX12_readGarden 27 = .ok (.invokevirtual 102, 3) := by decide +kernel
theorem dX12_readGarden_30 : decode cX12_readGarden 30 = .ok (.ifCond .eq 14, 3) := by decide +kernel
theorem dX12_readGarden_33 : decode cX12_readGarden 33 = .ok (.aload_n 0, 1) := by decide +kernel
theorem dX12_readGarden_34 : decode cX12_readGarden 34 = .ok (.iconst 0, 1) := by decide +kernel
theorem dX12_readGarden_35 : decode cX12_readGarden 35 = .ok (.sipush 400, 3) := by decide +kernel
theorem dX12_readGarden_38 : decode cX12_readGarden 38 = .ok (.invokevirtual 106, 3) := by decide +kernel
theorem dX12_readGarden_41 : decode cX12_readGarden 41 = .ok (.ifCond .ne 5, 3) := by decide +kernel
theorem dX12_readGarden_44 : decode cX12_readGarden 44 = .ok (.iconst 0, 1) := by decide +kernel
theorem dX12_readGarden_45 : decode cX12_readGarden 45 = .ok (.ireturn, 1) := by decide +kernel
theorem dX12_readGarden_46 : decode cX12_readGarden 46 = .ok (.aload_n 0, 1) := by decide +kernel
theorem dX12_readGarden_47 : decode cX12_readGarden 47 = .ok (.getfield 129, 3) := by decide +kernel
theorem dX12_readGarden_50 : decode cX12_readGarden 50 = .ok (.aload_n 0, 1) := by decide +kernel
theorem dX12_readGarden_51 : decode cX12_readGarden 51 = .ok (.getfield 123, 3) := by decide +kernel
theorem dX12_readGarden_54 : decode cX12_readGarden 54 = .ok (.aload_n 0, 1) := by decide +kernel
theorem dX12_readGarden_55 : decode cX12_readGarden 55 = .ok (.getfield 56, 3) := by decide +kernel
theorem dX12_readGarden_58 : decode cX12_readGarden 58 = .ok (.iastore, 1) := by decide +kernel
theorem dX12_readGarden_59 : decode cX12_readGarden 59 = .ok (.aload_n 0, 1) := by decide +kernel
theorem dX12_readGarden_60 : decode cX12_readGarden 60 = .ok (.iconst 0, 1) := by decide +kernel
theorem dX12_readGarden_61 : decode cX12_readGarden 61 = .ok (.sipush 999, 3) := by decide +kernel
theorem dX12_readGarden_64 : decode cX12_readGarden 64 = .ok (.invokevirtual 106, 3) := by decide +kernel
theorem dX12_readGarden_67 : decode cX12_readGarden 67 = .ok (.ifCond .ne 5, 3) := by decide +kernel
theorem dX12_readGarden_70 : decode cX12_readGarden 70 = .ok (.iconst 0, 1) := by decide +kernel
theorem dX12_readGarden_71 : decode cX12_readGarden 71 = .ok (.ireturn, 1) := by decide +kernel
theorem dX12_readGarden_72 : decode cX12_readGarden 72 = .ok (.aload_n 0, 1) := by decide +kernel
theorem dX12_readGarden_73 : decode cX12_readGarden 73 = .ok (.getfield 132, 3) := by decide +kernel
theorem dX12_readGarden_76 : decode cX12_readGarden 76 = .ok (.aload_n 0, 1) := by decide +kernel
theorem dX12_readGarden_77 : decode cX12_readGarden 77 = .ok (.getfield 123, 3) := by decide +kernel
theorem dX12_readGarden_80 : decode cX12_readGarden 80 = .ok (.aload_n 0, 1) := by decide +kernel
theorem dX12_readGarden_81 : decode cX12_readGarden 81 = .ok (.getfield 56, 3) := by decide +kernel
theorem dX12_readGarden_84 : decode cX12_readGarden 84 = .ok (.iastore, 1) := by decide +kernel
theorem dX12_readGarden_85 : decode cX12_readGarden 85 = .ok (.aload_n 0, 1) := by decide +kernel
theorem dX12_readGarden_86 : decode cX12_readGarden 86 = .ok (.iconst 0, 1) := by decide +kernel
theorem dX12_readGarden_87 : decode cX12_readGarden 87 = .ok (.sipush 9999, 3) := by decide +kernel
theorem dX12_readGarden_90 : decode cX12_readGarden 90 = .ok (.invokevirtual 106, 3) := by decide +kernel
theorem dX12_readGarden_93 : decode cX12_readGarden 93 = .ok (.ifCond .ne 5, 3) := by decide +kernel
theorem dX12_readGarden_96 : decode cX12_readGarden 96 = .ok (.iconst 0, 1) := by decide +kernel
theorem dX12_readGarden_97 : decode cX12_readGarden 97 = .ok (.ireturn, 1) := by decide +kernel
theorem dX12_readGarden_98 : decode cX12_readGarden 98 = .ok (.aload_n 0, 1) := by decide +kernel
theorem dX12_readGarden_99 : decode cX12_readGarden 99 = .ok (.getfield 135, 3) := by decide +kernel
theorem dX12_readGarden_102 : decode cX12_readGarden 102 = .ok (.aload_n 0, 1) := by decide +kernel
theorem dX12_readGarden_103 : decode cX12_readGarden 103 = .ok (.getfield 123, 3) := by decide +kernel
theorem dX12_readGarden_106 : decode cX12_readGarden 106 = .ok (.aload_n 0, 1) := by decide +kernel
theorem dX12_readGarden_107 : decode cX12_readGarden 107 = .ok (.getfield 56, 3) := by decide +kernel
theorem dX12_readGarden_110 : decode cX12_readGarden 110 = .ok (.iastore, 1) := by decide +kernel
theorem dX12_readGarden_111 : decode cX12_readGarden 111 = .ok (.aload_n 0, 1) := by decide +kernel
theorem dX12_readGarden_112 : decode cX12_readGarden 112 = .ok (.dup, 1) := by decide +kernel
theorem dX12_readGarden_113 : decode cX12_readGarden 113 = .ok (.getfield 123, 3) := by decide +kernel
theorem dX12_readGarden_116 : decode cX12_readGarden 116 = .ok (.iconst 1, 1) := by decide +kernel
theorem dX12_readGarden_117 : decode cX12_readGarden 117 = .ok (.iadd, 1) := by decide +kernel
theorem dX12_readGarden_118 : decode cX12_readGarden 118 = .ok (.putfield 123, 3) := by decide +kernel
theorem dX12_readGarden_121 : decode cX12_readGarden 121 = .ok (.iconst 1, 1) := by decide +kernel
theorem dX12_readGarden_122 : decode cX12_readGarden 122 = .ok (.ireturn, 1) := by decide +kernel
theorem dX12_readCount_0 : decode cX12_readCount 0 = .ok (.aload_n 0, 1) := by decide +kernel
theorem dX12_readCount_1 : decode cX12_readCount 1 = .ok (.invokevirtual 59, 3) := by decide +kernel
theorem dX12_readCount_4 : decode cX12_readCount 4 = .ok (.aload_n 0, 1) := by decide +kernel
theorem dX12_readCount_5 : decode cX12_readCount 5 = .ok (.getfield 27, 3) := by decide +kernel
theorem dX12_readCount_8 : decode cX12_readCount 8 = .ok (.iconst 1, 1) := by decide +kernel
theorem dX12_readCount_9 : decode cX12_readCount 9 = .ok (.if_icmp .eq 9, 3) := by decide +kernel
theorem dX12_readCount_12 : decode cX12_readCount 12 = .ok (.aload_n 0, 1) := by decide +kernel
theorem dX12_readCount_13 : decode cX12_readCount 13 = .ok (.iconst 1, 1) := by decide +kernel
theorem dX12_readCount_14 : decode cX12_readCount 14 = .ok (.invokevirtual 49, 3) := by decide +kernel
theorem dX12_readCount_17 : decode cX12_readCount 17 = .ok (.ireturn, 1) := by decide +kernel
theorem dX12_readCount_18 : decode cX12_readCount 18 = .ok (.aload_n 0, 1) := by decide +kernel
theorem dX12_readCount_19 : decode cX12_readCount 19 = .ok (.aload_n 0, 1) := by decide +kernel
theorem dX12_readCount_20 : decode cX12_readCount 20 = .ok (.getfield 98, 3) := by decide +kernel
theorem dX12_readCount_23 : decode cX12_readCount 23 = .ok (.aload_n 0, 1) := by decide +kernel
theorem dX12_readCount_24 : decode cX12_readCount 24 = .ok (.getfield 95, 3) := by decide +kernel
theorem dX12_readCount_27 : decode cX12_readCount 27 = .ok (.invokevirtual 67, 3) := by decide +kernel
theorem dX12_readCount_30 : decode cX12_readCount 30 = .ok (.istore_n 1, 1) := by decide +kernel
theorem dX12_readCount_31 : decode cX12_readCount 31 = .ok (.iload_n 1, 1) := by decide +kernel
theorem dX12_readCount_32 : decode cX12_readCount 32 = .ok (.iconst (-1), 1) := by decide +kernel
theorem dX12_readCount_33 : decode cX12_readCount 33 = .ok (.if_icmp .eq 19, 3) := by decide +kernel
theorem dX12_readCount_36 : decode cX12_readCount 36 = .ok (.aload_n 0, 1) := by decide +kernel
theorem dX12_readCount_37 : decode cX12_readCount 37 = .ok (.getfield 120, 3) := by decide +kernel
theorem dX12_readCount_40 : decode cX12_readCount 40 = .ok (.iload_n 1, 1) := by decide +kernel
theorem dX12_readCount_41 : decode cX12_readCount 41 = .ok (.iaload, 1) := by decide +kernel
theorem dX12_readCount_42 : decode cX12_readCount 42 = .ok (.iconst (-1), 1) := by decide +kernel
theorem dX12_readCount_43 : decode cX12_readCount 43 = .ok (.if_icmp .eq 9, 3) := by decide +kernel
theorem dX12_readCount_46 : decode cX12_readCount 46 = .ok (.aload_n 0, 1) := by decide +kernel
theorem dX12_readCount_47 : decode cX12_readCount 47 = .ok (.iconst 3, 1) := by decide +kernel
theorem dX12_readCount_48 : decode cX12_readCount 48 = .ok (.invokevirtual 49, 3) := by decide +kernel
theorem dX12_readCount_51 : decode cX12_readCount 51 = .ok (.ireturn, 1) := by decide +kernel
theorem dX12_readCount_52 : decode cX12_readCount 52 = .ok (.iload_n 1, 1) := by decide +kernel
theorem dX12_readCount_53 : decode cX12_readCount 53 = .ok (.iconst (-1), 1) := by decide +kernel
theorem dX12_readCount_54 : decode cX12_readCount 54 = .ok (.if_icmp .ne 9, 3) := by decide +kernel
theorem dX12_readCount_57 : decode cX12_readCount 57 = .ok (.aload_n 0, 1) := by decide +kernel
theorem dX12_readCount_58 : decode cX12_readCount 58 = .ok (.iconst 5, 1) := by decide +kernel
theorem dX12_readCount_59 : decode cX12_readCount 59 = .ok (.invokevirtual 49, 3) := by decide +kernel
theorem dX12_readCount_62 : decode cX12_readCount 62 = .ok (.ireturn, 1) := by decide +kernel
theorem dX12_readCount_63 : decode cX12_readCount 63 = .ok (.aload_n 0, 1) := by decide +kernel
theorem dX12_readCount_64 : decode cX12_readCount 64 = .ok (.invokevirtual 59, 3) := by decide +kernel
theorem dX12_readCount_67 : decode cX12_readCount 67 = .ok (.aload_n 0, 1) := by decide +kernel
theorem dX12_readCount_68 : decode cX12_readCount 68 = .ok (.iconst 0, 1) := by decide +kernel
theorem dX12_readCount_69 : decode cX12_readCount 69 = .ok (.bipush 99, 2) := by decide +kernel
theorem dX12_readCount_71 : decode cX12_readCount 71 = .ok (.invokevirtual 106, 3) := by decide +kernel
theorem dX12_readCount_74 : decode cX12_readCount 74 = .ok (.ifCond .ne 5, 3) := by decide +kernel
theorem dX12_readCount_77 : decode cX12_readCount 77 = .ok (.iconst 0, 1) := by decide +kernel
theorem dX12_readCount_78 : decode cX12_readCount 78 = .ok (.ireturn, 1) := by decide +kernel
theorem dX12_readCount_79 : decode cX12_readCount 79 = .ok (.aload_n 0, 1) := by decide +kernel
theorem dX12_readCount_80 : decode cX12_readCount 80 = .ok (.getfield 120, 3) := by decide +kernel
theorem dX12_readCount_83 : decode cX12_readCount 83 = .ok (.iload_n 1, 1) := by decide +kernel
theorem dX12_readCount_84 : decode cX12_readCount 84 = .ok (.aload_n 0, 1) := by decide +kernel
theorem dX12_readCount_85 : decode cX12_readCount 85 = .ok (.getfield 56, 3) := by decide +kernel
theorem dX12_readCount_88 : decode cX12_readCount 88 = .ok (.iastore, 1) := by decide +kernel
theorem dX12_readCount_89 : decode cX12_readCount 89 = .ok (.iconst 1, 1) := by decide +kernel
theorem dX12_readCount_90 : decode cX12_readCount 90 = .ok (.ireturn, 1) := by decide +kernel
theorem dX12_readRun_0 : decode cX12_readRun 0 = .ok (.aload_n 0, 1) := by decide +kernel
theorem dX12_readRun_1 : decode cX12_readRun 1 = .ok (.invokevirtual 59, 3) := by decide +kernel
theorem dX12_readRun_4 : decode cX12_readRun 4 = .ok (.aload_n 0, 1) := by decide +kernel
theorem dX12_readRun_5 : decode cX12_readRun 5 = .ok (.getfield 27, 3) := by decide +kernel
theorem dX12_readRun_8 : decode cX12_readRun 8 = .ok (.iconst 1, 1) := by decide +kernel
theorem dX12_readRun_9 : decode cX12_readRun 9 = .ok (.if_icmp .eq 9, 3) := by decide +kernel
theorem dX12_readRun_12 : decode cX12_readRun 12 = .ok (.aload_n 0, 1) := by decide +kernel
theorem dX12_readRun_13 : decode cX12_readRun 13 = .ok (.iconst 1, 1) := by decide +kernel
theorem dX12_readRun_14 : decode cX12_readRun 14 = .ok (.invokevirtual 49, 3) := by decide +kernel
theorem dX12_readRun_17 : decode cX12_readRun 17 = .ok (.ireturn, 1) := by decide +kernel
theorem dX12_readRun_18 : decode cX12_readRun 18 = .ok (.aload_n 0, 1) := by decide +kernel
theorem dX12_readRun_19 : decode cX12_readRun 19 = .ok (.aload_n 0, 1) := by decide +kernel
theorem dX12_readRun_20 : decode cX12_readRun 20 = .ok (.getfield 98, 3) := by decide +kernel
theorem dX12_readRun_23 : decode cX12_readRun 23 = .ok (.aload_n 0, 1) := by decide +kernel
theorem dX12_readRun_24 : decode cX12_readRun 24 = .ok (.getfield 95, 3) := by decide +kernel
theorem dX12_readRun_27 : decode cX12_readRun 27 = .ok (.invokevirtual 67, 3) := by decide +kernel
theorem dX12_readRun_30 : decode cX12_readRun 30 = .ok (.istore_n 1, 1) := by decide +kernel
theorem dX12_readRun_31 : decode cX12_readRun 31 = .ok (.iload_n 1, 1) := by decide +kernel
theorem dX12_readRun_32 : decode cX12_readRun 32 = .ok (.iconst (-1), 1) := by decide +kernel
theorem dX12_readRun_33 : decode cX12_readRun 33 = .ok (.if_icmp .ne 9, 3) := by decide +kernel
theorem dX12_readRun_36 : decode cX12_readRun 36 = .ok (.aload_n 0, 1) := by decide +kernel
theorem dX12_readRun_37 : decode cX12_readRun 37 = .ok (.iconst 5, 1) := by decide +kernel
theorem dX12_readRun_38 : decode cX12_readRun 38 = .ok (.invokevirtual 49, 3) := by decide +kernel
theorem dX12_readRun_41 : decode cX12_readRun 41 = .ok (.ireturn, 1) := by decide +kernel
theorem dX12_readRun_42 : decode cX12_readRun 42 = .ok (.aload_n 0, 1) := by decide +kernel
theorem dX12_readRun_43 : decode cX12_readRun 43 = .ok (.invokevirtual 59, 3) := by decide +kernel
theorem dX12_readRun_46 : decode cX12_readRun 46 = .ok (.aload_n 0, 1) := by decide +kernel
theorem dX12_readRun_47 : decode cX12_readRun 47 = .ok (.getfield 27, 3) := by decide +kernel
theorem dX12_readRun_50 : decode cX12_readRun 50 = .ok (.iconst 1, 1) := by decide +kernel
theorem dX12_readRun_51 : decode cX12_readRun 51 = .ok (.if_icmp .eq 9, 3) := by decide +kernel
theorem dX12_readRun_54 : decode cX12_readRun 54 = .ok (.aload_n 0, 1) := by decide +kernel
theorem dX12_readRun_55 : decode cX12_readRun 55 = .ok (.iconst 1, 1) := by decide +kernel
theorem dX12_readRun_56 : decode cX12_readRun 56 = .ok (.invokevirtual 49, 3) := by decide +kernel
theorem dX12_readRun_59 : decode cX12_readRun 59 = .ok (.ireturn, 1) := by decide +kernel
theorem dX12_readRun_60 : decode cX12_readRun 60 = .ok (.aload_n 0, 1) := by decide +kernel
theorem dX12_readRun_61 : decode cX12_readRun 61 = .ok (.aload_n 0, 1) := by decide +kernel
theorem dX12_readRun_62 : decode cX12_readRun 62 = .ok (.getfield 98, 3) := by decide +kernel
theorem dX12_readRun_65 : decode cX12_readRun 65 = .ok (.aload_n 0, 1) := by decide +kernel
theorem dX12_readRun_66 : decode cX12_readRun 66 = .ok (.getfield 95, 3) := by decide +kernel
theorem dX12_readRun_69 : decode cX12_readRun 69 = .ok (.invokevirtual 67, 3) := by decide +kernel
theorem dX12_readRun_72 : decode cX12_readRun 72 = .ok (.istore_n 2, 1) := by decide +kernel
theorem dX12_readRun_73 : decode cX12_readRun 73 = .ok (.iload_n 2, 1) := by decide +kernel
theorem dX12_readRun_74 : decode cX12_readRun 74 = .ok (.iconst (-1), 1) := by decide +kernel
theorem dX12_readRun_75 : decode cX12_readRun 75 = .ok (.if_icmp .eq 30, 3) := by decide +kernel
theorem dX12_readRun_78 : decode cX12_readRun 78 = .ok (.iload_n 1, 1) := by decide +kernel
theorem dX12_readRun_79 : decode cX12_readRun 79 = .ok (.iload_n 2, 1) := by decide +kernel
theorem dX12_readRun_80 : decode cX12_readRun 80 = .ok (.if_icmp .eq 19, 3) := by decide +kernel
theorem dX12_readRun_83 : decode cX12_readRun 83 = .ok (.aload_n 0, 1) := by decide +kernel
theorem dX12_readRun_84 : decode cX12_readRun 84 = .ok (.getfield 138, 3) := by decide +kernel
theorem dX12_readRun_87 : decode cX12_readRun 87 = .ok (.iconst 5, 1) := by decide +kernel
theorem dX12_readRun_88 : decode cX12_readRun 88 = .ok (.iload_n 1, 1) := by decide +kernel
theorem dX12_readRun_89 : decode cX12_readRun 89 = .ok (.imul, 1) := by decide +kernel
theorem dX12_readRun_90 : decode cX12_readRun 90 = .ok (.iload_n 2, 1) := by decide +kernel
theorem dX12_readRun_91 : decode cX12_readRun 91 = .ok (.iadd, 1) := by decide +kernel
theorem dX12_readRun_92 : decode cX12_readRun 92 = .ok (.ishr, 1) := by decide +kernel
theorem dX12_readRun_93 : decode cX12_readRun 93 = .ok (.iconst 1, 1) := by decide +kernel
theorem dX12_readRun_94 : decode cX12_readRun 94 = .ok (.iand, 1) := by decide +kernel
theorem dX12_readRun_95 : decode cX12_readRun 95 = .ok (.iconst 1, 1) := by decide +kernel
theorem dX12_readRun_96 : decode cX12_readRun 96 = .ok (.if_icmp .ne 9, 3) := by decide +kernel
theorem dX12_readRun_99 : decode cX12_readRun 99 = .ok (.aload_n 0, 1) := by decide +kernel
theorem dX12_readRun_100 : decode cX12_readRun 100 = .ok (.iconst 3, 1) := by decide +kernel
theorem dX12_readRun_101 : decode cX12_readRun 101 = .ok (.invokevirtual 49, 3) := by decide +kernel
theorem dX12_readRun_104 : decode cX12_readRun 104 = .ok (.ireturn, 1) := by decide +kernel
theorem dX12_readRun_105 : decode cX12_readRun 105 = .ok (.iload_n 2, 1) := by decide +kernel
theorem dX12_readRun_106 : decode cX12_readRun 106 = .ok (.iconst (-1), 1) := by decide +kernel
theorem dX12_readRun_107 : decode cX12_readRun 107 = .ok (.if_icmp .ne 9, 3) := by decide +kernel
theorem dX12_readRun_110 : decode cX12_readRun 110 = .ok (.aload_n 0, 1) := by decide +kernel
theorem dX12_readRun_111 : decode cX12_readRun 111 = .ok (.iconst 5, 1) := by decide +kernel
theorem dX12_readRun_112 : decode cX12_readRun 112 = .ok (.invokevirtual 49, 3) := by decide +kernel
theorem dX12_readRun_115 : decode cX12_readRun 115 = .ok (.ireturn, 1) := by decide +kernel
theorem dX12_readRun_116 : decode cX12_readRun 116 = .ok (.aload_n 0, 1) := by decide +kernel
theorem dX12_readRun_117 : decode cX12_readRun 117 = .ok (.dup, 1) := by decide +kernel
theorem dX12_readRun_118 : decode cX12_readRun 118 = .ok (.getfield 138, 3) := by decide +kernel
theorem dX12_readRun_121 : decode cX12_readRun 121 = .ok (.iconst 1, 1) := by decide +kernel
theorem dX12_readRun_122 : decode cX12_readRun 122 = .ok (.iconst 5, 1) := by decide +kernel
theorem dX12_readRun_123 : decode cX12_readRun 123 = .ok (.iload_n 1, 1) := by decide +kernel
theorem dX12_readRun_124 : decode cX12_readRun 124 = .ok (.imul, 1) := by decide +kernel
theorem dX12_readRun_125 : decode cX12_readRun 125 = .ok (.iload_n 2, 1) := by decide +kernel
theorem dX12_readRun_126 : decode cX12_readRun 126 = .ok (.iadd, 1) := by decide +kernel
theorem dX12_readRun_127 : decode cX12_readRun 127 = .ok (.ishl, 1) := by decide +kernel
theorem dX12_readRun_128 : decode cX12_readRun 128 = .ok (.iconst 1, 1) := by decide +kernel
theorem dX12_readRun_129 : decode cX12_readRun 129 = .ok (.iconst 5, 1) := by decide +kernel
