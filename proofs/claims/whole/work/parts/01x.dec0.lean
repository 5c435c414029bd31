theorem dX0_init_0 : decode cX0_init 0 = .ok (.aload_n 0, 1) := by decide +kernel
theorem dX0_init_1 : decode cX0_init 1 = .ok (.invokespecial 3, 3) := by decide +kernel
theorem dX0_init_4 : decode cX0_init 4 = .ok (.aload_n 0, 1) := by decide +kernel
theorem dX0_init_5 : decode cX0_init 5 = .ok (.getstatic 9, 3) := by decide +kernel
theorem dX0_init_8 : decode cX0_init 8 = .ok (.arraylength, 1) := by decide +kernel
theorem dX0_init_9 : decode cX0_init 9 = .ok (.newarray .int, 2) := by decide +kernel
theorem dX0_init_11 : decode cX0_init 11 = .ok (.putfield 15, 3) := by decide +kernel
theorem dX0_init_14 : decode cX0_init 14 = .ok (.aload_n 0, 1) := by decide +kernel
theorem dX0_init_15 : decode cX0_init 15 = .ok (.getstatic 9, 3) := by decide +kernel
theorem dX0_init_18 : decode cX0_init 18 = .ok (.arraylength, 1) := by decide +kernel
theorem dX0_init_19 : decode cX0_init 19 = .ok (.newarray .boolean, 2) := by decide +kernel
theorem dX0_init_21 : decode cX0_init 21 = .ok (.putfield 18, 3) := by decide +kernel
theorem dX0_init_24 : decode cX0_init 24 = .ok (.aload_n 0, 1) := by decide +kernel
theorem dX0_init_25 : decode cX0_init 25 = .ok (.iconst 5, 1) := by decide +kernel
theorem dX0_init_26 : decode cX0_init 26 = .ok (.newarray .long, 2) := by decide +kernel
theorem dX0_init_28 : decode cX0_init 28 = .ok (.putfield 22, 3) := by decide +kernel
theorem dX0_init_31 : decode cX0_init 31 = .ok (.aload_n 0, 1) := by decide +kernel
theorem dX0_init_32 : decode cX0_init 32 = .ok (.iconst 5, 1) := by decide +kernel
theorem dX0_init_33 : decode cX0_init 33 = .ok (.newarray .int, 2) := by decide +kernel
theorem dX0_init_35 : decode cX0_init 35 = .ok (.putfield 26, 3) := by decide +kernel
theorem dX0_init_38 : decode cX0_init 38 = .ok (.aload_n 0, 1) := by decide +kernel
theorem dX0_init_39 : decode cX0_init 39 = .ok (.iconst 5, 1) := by decide +kernel
theorem dX0_init_40 : decode cX0_init 40 = .ok (.newarray .int, 2) := by decide +kernel
theorem dX0_init_42 : decode cX0_init 42 = .ok (.putfield 29, 3) := by decide +kernel
theorem dX0_init_45 : decode cX0_init 45 = .ok (.aload_n 0, 1) := by decide +kernel
theorem dX0_init_46 : decode cX0_init 46 = .ok (.iconst 5, 1) := by decide +kernel
theorem dX0_init_47 : decode cX0_init 47 = .ok (.newarray .int, 2) := by decide +kernel
theorem dX0_init_49 : decode cX0_init 49 = .ok (.putfield 32, 3) := by decide +kernel
theorem dX0_init_52 : decode cX0_init 52 = .ok (.aload_n 0, 1) := by decide +kernel
theorem dX0_init_53 : decode cX0_init 53 = .ok (.iconst 5, 1) := by decide +kernel
theorem dX0_init_54 : decode cX0_init 54 = .ok (.newarray .int, 2) := by decide +kernel
theorem dX0_init_56 : decode cX0_init 56 = .ok (.putfield 35, 3) := by decide +kernel
theorem dX0_init_59 : decode cX0_init 59 = .ok (.aload_n 0, 1) := by decide +kernel
theorem dX0_init_60 : decode cX0_init 60 = .ok (.bipush 25, 2) := by decide +kernel
theorem dX0_init_62 : decode cX0_init 62 = .ok (.newarray .int, 2) := by decide +kernel
theorem dX0_init_64 : decode cX0_init 64 = .ok (.putfield 38, 3) := by decide +kernel
theorem dX0_init_67 : decode cX0_init 67 = .ok (.aload_n 0, 1) := by decide +kernel
theorem dX0_init_68 : decode cX0_init 68 = .ok (.iconst 4, 1) := by decide +kernel
theorem dX0_init_69 : decode cX0_init 69 = .ok (.newarray .long, 2) := by decide +kernel
theorem dX0_init_71 : decode cX0_init 71 = .ok (.putfield 41, 3) := by decide +kernel
theorem dX0_init_74 : decode cX0_init 74 = .ok (.aload_n 0, 1) := by decide +kernel
theorem dX0_init_75 : decode cX0_init 75 = .ok (.iconst 4, 1) := by decide +kernel
theorem dX0_init_76 : decode cX0_init 76 = .ok (.newarray .int, 2) := by decide +kernel
theorem dX0_init_78 : decode cX0_init 78 = .ok (.putfield 44, 3) := by decide +kernel
theorem dX0_init_81 : decode cX0_init 81 = .ok (.aload_n 0, 1) := by decide +kernel
theorem dX0_init_82 : decode cX0_init 82 = .ok (.iconst 4, 1) := by decide +kernel
theorem dX0_init_83 : decode cX0_init 83 = .ok (.newarray .int, 2) := by decide +kernel
theorem dX0_init_85 : decode cX0_init 85 = .ok (.putfield 47, 3) := by decide +kernel
theorem dX0_init_88 : decode cX0_init 88 = .ok (.aload_n 0, 1) := by decide +kernel
theorem dX0_init_89 : decode cX0_init 89 = .ok (.iconst 4, 1) := by decide +kernel
theorem dX0_init_90 : decode cX0_init 90 = .ok (.newarray .int, 2) := by decide +kernel
theorem dX0_init_92 : decode cX0_init 92 = .ok (.putfield 50, 3) := by decide +kernel
theorem dX0_init_95 : decode cX0_init 95 = .ok (.aload_n 0, 1) := by decide +kernel
theorem dX0_init_96 : decode cX0_init 96 = .ok (.iconst 4, 1) := by decide +kernel
theorem dX0_init_97 : decode cX0_init 97 = .ok (.newarray .long, 2) := by decide +kernel
theorem dX0_init_99 : decode cX0_init 99 = .ok (.putfield 53, 3) := by decide +kernel
theorem dX0_init_102 : decode cX0_init 102 = .ok (.aload_n 0, 1) := by decide +kernel
theorem dX0_init_103 : decode cX0_init 103 = .ok (.iconst 4, 1) := by decide +kernel
theorem dX0_init_104 : decode cX0_init 104 = .ok (.newarray .int, 2) := by decide +kernel
theorem dX0_init_106 : decode cX0_init 106 = .ok (.putfield 56, 3) := by decide +kernel
theorem dX0_init_109 : decode cX0_init 109 = .ok (.aload_n 0, 1) := by decide +kernel
theorem dX0_init_110 : decode cX0_init 110 = .ok (.invokevirtual 59, 3) := by decide +kernel
theorem dX0_init_113 : decode cX0_init 113 = .ok (.return_, 1) := by decide +kernel
theorem dX0_clear_0 : decode cX0_clear 0 = .ok (.getstatic 9, 3) := by decide +kernel
theorem dX0_clear_3 : decode cX0_clear 3 = .ok (.iconst 0, 1) := by decide +kernel
theorem dX0_clear_4 : decode cX0_clear 4 = .ok (.aload_n 0, 1) := by decide +kernel
theorem dX0_clear_5 : decode cX0_clear 5 = .ok (.getfield 15, 3) := by decide +kernel
theorem dX0_clear_8 : decode cX0_clear 8 = .ok (.iconst 0, 1) := by decide +kernel
theorem dX0_clear_9 : decode cX0_clear 9 = .ok (.getstatic 9, 3) := by decide +kernel
theorem dX0_clear_12 : decode cX0_clear 12 = .ok (.arraylength, 1) := by decide +kernel
theorem dX0_clear_13 : decode cX0_clear 13 = .ok (.invokestatic 62, 3) := by decide +kernel
theorem dX0_clear_16 : decode cX0_clear 16 = .ok (.iconst 0, 1) := by decide +kernel
theorem dX0_clear_17 : decode cX0_clear 17 = .ok (.istore_n 1, 1) := by decide +kernel
theorem dX0_clear_18 : decode cX0_clear 18 = .ok (.iload_n 1, 1) := by decide +kernel
theorem dX0_clear_19 : decode cX0_clear 19 = .ok (.getstatic 9, 3) := by decide +kernel
theorem dX0_clear_22 : decode cX0_clear 22 = .ok (.arraylength, 1) := by decide +kernel
theorem dX0_clear_23 : decode cX0_clear 23 = .ok (.if_icmp .ge 16, 3) := by decide +kernel
theorem dX0_clear_26 : decode cX0_clear 26 = .ok (.aload_n 0, 1) := by decide +kernel
theorem dX0_clear_27 : decode cX0_clear 27 = .ok (.getfield 18, 3) := by decide +kernel
theorem dX0_clear_30 : decode cX0_clear 30 = .ok (.iload_n 1, 1) := by decide +kernel
theorem dX0_clear_31 : decode cX0_clear 31 = .ok (.iconst 0, 1) := by decide +kernel
theorem dX0_clear_32 : decode cX0_clear 32 = .ok (.bastore, 1) := by decide +kernel
theorem dX0_clear_33 : decode cX0_clear 33 = .ok (.iinc 1 1, 3) := by decide +kernel
theorem dX0_clear_36 : decode cX0_clear 36 = .ok (.goto (-18), 3) := by decide +kernel
theorem dX0_clear_39 : decode cX0_clear 39 = .ok (.aload_n 0, 1) := by decide +kernel
theorem dX0_clear_40 : decode cX0_clear 40 = .ok (.getfield 35, 3) := by decide +kernel
theorem dX0_clear_43 : decode cX0_clear 43 = .ok (.iconst (-1), 1) := by decide +kernel
theorem dX0_clear_44 : decode cX0_clear 44 = .ok (.invokestatic 68, 3) := by decide +kernel
theorem dX0_clear_47 : decode cX0_clear 47 = .ok (.aload_n 0, 1) := by decide +kernel
theorem dX0_clear_48 : decode cX0_clear 48 = .ok (.getfield 38, 3) := by decide +kernel
theorem dX0_clear_51 : decode cX0_clear 51 = .ok (.iconst (-1), 1) := by decide +kernel
theorem dX0_clear_52 : decode cX0_clear 52 = .ok (.invokestatic 68, 3) := by decide +kernel
theorem dX0_clear_55 : decode cX0_clear 55 = .ok (.aload_n 0, 1) := by decide +kernel
theorem dX0_clear_56 : decode cX0_clear 56 = .ok (.iconst 0, 1) := by decide +kernel
theorem dX0_clear_57 : decode cX0_clear 57 = .ok (.putfield 74, 3) := by decide +kernel
theorem dX0_clear_60 : decode cX0_clear 60 = .ok (.aload_n 0, 1) := by decide +kernel
theorem dX0_clear_61 : decode cX0_clear 61 = .ok (.iconst 0, 1) := by decide +kernel
theorem dX0_clear_62 : decode cX0_clear 62 = .ok (.putfield 78, 3) := by decide +kernel
theorem dX0_clear_65 : decode cX0_clear 65 = .ok (.aload_n 0, 1) := by decide +kernel
theorem dX0_clear_66 : decode cX0_clear 66 = .ok (.iconst 0, 1) := by decide +kernel
theorem dX0_clear_67 : decode cX0_clear 67 = .ok (.putfield 81, 3) := by decide +kernel
theorem dX0_clear_70 : decode cX0_clear 70 = .ok (.aload_n 0, 1) := by decide +kernel
theorem dX0_clear_71 : decode cX0_clear 71 = .ok (.iconst 0, 1) := by decide +kernel
theorem dX0_clear_72 : decode cX0_clear 72 = .ok (.putfield 84, 3) := by decide +kernel
theorem dX0_clear_75 : decode cX0_clear 75 = .ok (.return_, 1) := by decide +kernel
theorem dX0_setting_0 : decode cX0_setting 0 = .ok (.iload_n 1, 1) := by decide +kernel
theorem dX0_setting_1 : decode cX0_setting 1 = .ok (.ifCond .lt 20, 3) := by decide +kernel
theorem dX0_setting_4 : decode cX0_setting 4 = .ok (.iload_n 1, 1) := by decide +kernel
theorem dX0_setting_5 : decode cX0_setting 5 = .ok (.getstatic 9, 3) := by decide +kernel
theorem dX0_setting_8 : decode cX0_setting 8 = .ok (.arraylength, 1) := by decide +kernel
theorem dX0_setting_9 : decode cX0_setting 9 = .ok (.if_icmp .ge 12, 3) := by decide +kernel
theorem dX0_setting_12 : decode cX0_setting 12 = .ok (.aload_n 0, 1) := by decide +kernel
theorem dX0_setting_13 : decode cX0_setting 13 = .ok (.getfield 15, 3) := by decide +kernel
theorem dX0_setting_16 : decode cX0_setting 16 = .ok (.iload_n 1, 1) := by decide +kernel
theorem dX0_setting_17 : decode cX0_setting 17 = .ok (.iaload, 1) := by decide +kernel
theorem dX0_setting_18 : decode cX0_setting 18 = .ok (.goto 4, 3) := by decide +kernel
theorem dX0_setting_21 : decode cX0_setting 21 = .ok (.iconst 0, 1) := by decide +kernel
theorem dX0_setting_22 : decode cX0_setting 22 = .ok (.ireturn, 1) := by decide +kernel
theorem dX0_wasSet_0 : decode cX0_wasSet 0 = .ok (.iload_n 1, 1) := by decide +kernel
theorem dX0_wasSet_1 : decode cX0_wasSet 1 = .ok (.ifCond .lt 24, 3) := by decide +kernel
theorem dX0_wasSet_4 : decode cX0_wasSet 4 = .ok (.iload_n 1, 1) := by decide +kernel
theorem dX0_wasSet_5 : decode cX0_wasSet 5 = .ok (.getstatic 9, 3) := by decide +kernel
theorem dX0_wasSet_8 : decode cX0_wasSet 8 = .ok (.arraylength, 1) := by decide +kernel
theorem dX0_wasSet_9 : decode cX0_wasSet 9 = .ok (.if_icmp .ge 16, 3) := by decide +kernel
theorem dX0_wasSet_12 : decode cX0_wasSet 12 = .ok (.aload_n 0, 1) := by decide +kernel
theorem dX0_wasSet_13 : decode cX0_wasSet 13 = .ok (.getfield 18, 3) := by decide +kernel
theorem dX0_wasSet_16 : decode cX0_wasSet 16 = .ok (.iload_n 1, 1) := by decide +kernel
theorem dX0_wasSet_17 : decode cX0_wasSet 17 = .ok (.baload, 1) := by decide +kernel
theorem dX0_wasSet_18 : decode cX0_wasSet 18 = .ok (.ifCond .eq 7, 3) := by decide +kernel
theorem dX0_wasSet_21 : decode cX0_wasSet 21 = .ok (.iconst 1, 1) := by decide +kernel
theorem dX0_wasSet_22 : decode cX0_wasSet 22 = .ok (.goto 4, 3) := by decide +kernel
theorem dX0_wasSet_25 : decode cX0_wasSet 25 = .ok (.iconst 0, 1) := by decide +kernel
theorem dX0_wasSet_26 : decode cX0_wasSet 26 = .ok (.ireturn, 1) := by decide +kernel
theorem dX0_tellSetting_0 : decode cX0_tellSetting 0 = .ok (.iload_n 1, 1) := by decide +kernel
theorem dX0_tellSetting_1 : decode cX0_tellSetting 1 = .ok (.ifCond .lt 25, 3) := by decide +kernel
theorem dX0_tellSetting_4 : decode cX0_tellSetting 4 = .ok (.iload_n 1, 1) := by decide +kernel
theorem dX0_tellSetting_5 : decode cX0_tellSetting 5 = .ok (.getstatic 9, 3) := by decide +kernel
theorem dX0_tellSetting_8 : decode cX0_tellSetting 8 = .ok (.arraylength, 1) := by decide +kernel
theorem dX0_tellSetting_9 : decode cX0_tellSetting 9 = .ok (.if_icmp .ge 17, 3) := by decide +kernel
theorem dX0_tellSetting_12 : decode cX0_tellSetting 12 = .ok (.aload_n 0, 1) := by decide +kernel
theorem dX0_tellSetting_13 : decode cX0_tellSetting 13 = .ok (.getfield 15, 3) := by decide +kernel
theorem dX0_tellSetting_16 : decode cX0_tellSetting 16 = .ok (.iload_n 1, 1) := by decide +kernel
theorem dX0_tellSetting_17 : decode cX0_tellSetting 17 = .ok (.iload_n 2, 1) := by decide +kernel
theorem dX0_tellSetting_18 : decode cX0_tellSetting 18 = .ok (.iastore, 1) := by decide +kernel
theorem dX0_tellSetting_19 : decode cX0_tellSetting 19 = .ok (.aload_n 0, 1) := by decide +kernel
theorem dX0_tellSetting_20 : decode cX0_tellSetting 20 = .ok (.getfield 18, 3) := by decide +kernel
theorem dX0_tellSetting_23 : decode cX0_tellSetting 23 = .ok (.iload_n 1, 1) := by decide +kernel
theorem dX0_tellSetting_24 : decode cX0_tellSetting 24 = .ok (.iconst 1, 1) := by decide +kernel
theorem dX0_tellSetting_25 : decode cX0_tellSetting 25 = .ok (.bastore, 1) := by decide +kernel
theorem dX0_tellSetting_26 : decode cX0_tellSetting 26 = .ok (.return_, 1) := by decide +kernel
theorem dX0_addHut_0 : decode cX0_addHut 0 = .ok (.aload_n 0, 1) := by decide +kernel
theorem dX0_addHut_1 : decode cX0_addHut 1 = .ok (.getfield 74, 3) := by decide +kernel
theorem dX0_addHut_4 : decode cX0_addHut 4 = .ok (.iconst 5, 1) := by decide +kernel
theorem dX0_addHut_5 : decode cX0_addHut 5 = .ok (.if_icmp .ge 55, 3) := by decide +kernel
theorem dX0_addHut_8 : decode cX0_addHut 8 = .ok (.aload_n 0, 1) := by decide +kernel
theorem dX0_addHut_9 : decode cX0_addHut 9 = .ok (.getfield 22, 3) := by decide +kernel
theorem dX0_addHut_12 : decode cX0_addHut 12 = .ok (.aload_n 0, 1) := by decide +kernel
theorem dX0_addHut_13 : decode cX0_addHut 13 = .ok (.getfield 74, 3) := by decide +kernel
theorem dX0_addHut_16 : decode cX0_addHut 16 = .ok (.lload_n 1, 1) := by decide +kernel
theorem dX0_addHut_17 : decode cX0_addHut 17 = .ok (.lastore, 1) := by decide +kernel
theorem dX0_addHut_18 : decode cX0_addHut 18 = .ok (.aload_n 0, 1) := by decide +kernel
theorem dX0_addHut_19 : decode cX0_addHut 19 = .ok (.getfield 26, 3) := by decide +kernel
theorem dX0_addHut_22 : decode cX0_addHut 22 = .ok (.aload_n 0, 1) := by decide +kernel
theorem dX0_addHut_23 : decode cX0_addHut 23 = .ok (.getfield 74, 3) := by decide +kernel
theorem dX0_addHut_26 : decode cX0_addHut 26 = .ok (.iload_n 3, 1) := by decide +kernel
theorem dX0_addHut_27 : decode cX0_addHut 27 = .ok (.iastore, 1) := by decide +kernel
theorem dX0_addHut_28 : decode cX0_addHut 28 = .ok (.aload_n 0, 1) := by decide +kernel
theorem dX0_addHut_29 : decode cX0_addHut 29 = .ok (.getfield 29, 3) := by decide +kernel
theorem dX0_addHut_32 : decode cX0_addHut 32 = .ok (.aload_n 0, 1) := by decide +kernel
theorem dX0_addHut_33 : decode cX0_addHut 33 = .ok (.getfield 74, 3) := by decide +kernel
theorem dX0_addHut_36 : decode cX0_addHut 36 = .ok (.iload 4, 2) := by decide +kernel
theorem dX0_addHut_38 : decode cX0_addHut 38 = .ok (.iastore, 1) := by decide +kernel
theorem dX0_addHut_39 : decode cX0_addHut 39 = .ok (.aload_n 0, 1) := by decide +kernel
theorem dX0_addHut_40 : decode cX0_addHut 40 = .ok (.getfield 32, 3) := by decide +kernel
theorem dX0_addHut_43 : decode cX0_addHut 43 = .ok (.aload_n 0, 1) := by decide +kernel
theorem dX0_addHut_44 : decode cX0_addHut 44 = .ok (.getfield 74, 3) := by decide +kernel
theorem dX0_addHut_47 : decode cX0_addHut 47 = .ok (.iload 5, 2) := by decide +kernel
theorem dX0_addHut_49 : decode cX0_addHut 49 = .ok (.iastore, 1) := by decide +kernel
theorem dX0_addHut_50 : decode cX0_addHut 50 = .ok (.aload_n 0, 1) := by decide +kernel
theorem dX0_addHut_51 : decode cX0_addHut 51 = .ok (.dup, 1) := by decide +kernel
theorem dX0_addHut_52 : decode cX0_addHut 52 = .ok (.getfield 74, 3) := by decide +kernel
theorem dX0_addHut_55 : decode cX0_addHut 55 = .ok (.iconst 1, 1) := by decide +kernel
theorem dX0_addHut_56 : decode cX0_addHut 56 = .ok (.iadd, 1) := by decide +kernel
theorem dX0_addHut_57 : decode cX0_addHut 57 = .ok (.putfield 74, 3) := by decide +kernel
theorem dX0_addHut_60 : decode cX0_addHut 60 = .ok (.return_, 1) := by decide +kernel
theorem dX0_addGarden_0 : decode cX0_addGarden 0 = .ok (.aload_n 0, 1) := by decide +kernel
theorem dX0_addGarden_1 : decode cX0_addGarden 1 = .ok (.getfield 78, 3) := by decide +kernel
theorem dX0_addGarden_4 : decode cX0_addGarden 4 = .ok (.iconst 4, 1) := by decide +kernel
theorem dX0_addGarden_5 : decode cX0_addGarden 5 = .ok (.if_icmp .ge 55, 3) := by decide +kernel
theorem dX0_addGarden_8 : decode cX0_addGarden 8 = .ok (.aload_n 0, 1) := by decide +kernel
theorem dX0_addGarden_9 : decode cX0_addGarden 9 = .ok (.getfield 41, 3) := by decide +kernel
theorem dX0_addGarden_12 : decode cX0_addGarden 12 = .ok (.aload_n 0, 1) := by decide +kernel
theorem dX0_addGarden_13 : decode cX0_addGarden 13 = .ok (.getfield 78, 3) := by decide +kernel
theorem dX0_addGarden_16 : decode cX0_addGarden 16 = .ok (.lload_n 1, 1) := by decide +kernel
theorem dX0_addGarden_17 : decode cX0_addGarden 17 = .ok (.lastore, 1) := by decide +kernel
theorem dX0_addGarden_18 : decode cX0_addGarden 18 = .ok (.aload_n 0, 1) := by decide +kernel
theorem dX0_addGarden_19 : decode cX0_addGarden 19 = .ok (.getfield 44, 3) := by decide +kernel
theorem dX0_addGarden_22 : decode cX0_addGarden 22 = .ok (.aload_n 0, 1) := by decide +kernel
theorem dX0_addGarden_23 : decode cX0_addGarden 23 = .ok (.getfield 78, 3) := by decide +kernel
theorem dX0_addGarden_26 : decode cX0_addGarden 26 = .ok (.iload_n 3, 1) := by decide +kernel
theorem dX0_addGarden_27 : decode cX0_addGarden 27 = .ok (.iastore, 1) := by decide +kernel
theorem dX0_addGarden_28 : decode cX0_addGarden 28 = .ok (.aload_n 0, 1) := by decide +kernel
theorem dX0_addGarden_29 : decode cX0_addGarden 29 = .ok (.getfield 47, 3) := by decide +kernel
theorem dX0_addGarden_32 : decode cX0_addGarden 32 = .ok (.aload_n 0, 1) := by decide +kernel
theorem dX0_addGarden_33 : decode cX0_addGarden 33 = .ok (.getfield 78, 3) := by decide +kernel
theorem dX0_addGarden_36 : decode cX0_addGarden 36 = .ok (.iload 4, 2) := by decide +kernel
theorem dX0_addGarden_38 : decode cX0_addGarden 38 = .ok (.iastore, 1) := by decide +kernel
theorem dX0_addGarden_39 : decode cX0_addGarden 39 = .ok (.aload_n 0, 1) := by decide +kernel
theorem dX0_addGarden_40 : decode cX0_addGarden 40 = .ok (.getfield 50, 3) := by decide +kernel
theorem dX0_addGarden_43 : decode cX0_addGarden 43 = .ok (.aload_n 0, 1) := by decide +kernel
theorem dX0_addGarden_44 : decode cX0_addGarden 44 = .ok (.getfield 78, 3) := by decide +kernel
theorem dX0_addGarden_47 : decode cX0_addGarden 47 = .ok (.iload 5, 2) := by decide +kernel
theorem dX0_addGarden_49 : decode cX0_addGarden 49 = .ok (.iastore, 1) := by decide +kernel
theorem dX0_addGarden_50 : decode cX0_addGarden 50 = .ok (.aload_n 0, 1) := by decide +kernel
theorem dX0_addGarden_51 : decode cX0_addGarden 51 = .ok (.dup, 1) := by decide +kernel
theorem dX0_addGarden_52 : decode cX0_addGarden 52 = .ok (.getfield 78, 3) := by decide +kernel
theorem dX0_addGarden_55 : decode cX0_addGarden 55 = .ok (.iconst 1, 1) := by decide +kernel
theorem dX0_addGarden_56 : decode cX0_addGarden 56 = .ok (.iadd, 1) := by decide +kernel
theorem dX0_addGarden_57 : decode cX0_addGarden 57 = .ok (.putfield 78, 3) := by decide +kernel
theorem dX0_addGarden_60 : decode cX0_addGarden 60 = .ok (.return_, 1) := by decide +kernel
theorem dX0_addLook_0 : decode cX0_addLook 0 = .ok (.aload_n 0, 1) := by decide +kernel
theorem dX0_addLook_1 : decode cX0_addLook 1 = .ok (.getfield 81, 3) := by decide +kernel
theorem dX0_addLook_4 : decode cX0_addLook 4 = .ok (.iconst 4, 1) := by decide +kernel
theorem dX0_addLook_5 : decode cX0_addLook 5 = .ok (.if_icmp .ge 33, 3) := by decide +kernel
theorem dX0_addLook_8 : decode cX0_addLook 8 = .ok (.aload_n 0, 1) := by decide +kernel
theorem dX0_addLook_9 : decode cX0_addLook 9 = .ok (.getfield 53, 3) := by decide +kernel
theorem dX0_addLook_12 : decode cX0_addLook 12 = .ok (.aload_n 0, 1) := by decide +kernel
theorem dX0_addLook_13 : decode cX0_addLook 13 = .ok (.getfield 81, 3) := by decide +kernel
theorem dX0_addLook_16 : decode cX0_addLook 16 = .ok (.lload_n 1, 1) := by decide +kernel
theorem dX0_addLook_17 : decode cX0_addLook 17 = .ok (.lastore, 1) := by decide +kernel
theorem dX0_addLook_18 : decode cX0_addLook 18 = .ok (.aload_n 0, 1) := by decide +kernel
theorem dX0_addLook_19 : decode cX0_addLook 19 = .ok (.getfield 56, 3) := by decide +kernel
theorem dX0_addLook_22 : decode cX0_addLook 22 = .ok (.aload_n 0, 1) := by decide +kernel
theorem dX0_addLook_23 : decode cX0_addLook 23 = .ok (.getfield 81, 3) := by decide +kernel
theorem dX0_addLook_26 : decode cX0_addLook 26 = .ok (.iload_n 3, 1) := by decide +kernel
theorem dX0_addLook_27 : decode cX0_addLook 27 = .ok (.iastore, 1) := by decide +kernel
theorem dX0_addLook_28 : decode cX0_addLook 28 = .ok (.aload_n 0, 1) := by decide +kernel
theorem dX0_addLook_29 : decode cX0_addLook 29 = .ok (.dup, 1) := by decide +kernel
theorem dX0_addLook_30 : decode cX0_addLook 30 = .ok (.getfield 81, 3) := by decide +kernel
theorem dX0_addLook_33 : decode cX0_addLook 33 = .ok (.iconst 1, 1) := by decide +kernel
theorem dX0_addLook_34 : decode cX0_addLook 34 = .ok (.iadd, 1) := by decide +kernel
theorem dX0_addLook_35 : decode cX0_addLook 35 = .ok (.putfield 81, 3) := by decide +kernel
theorem dX0_addLook_38 : decode cX0_addLook 38 = .ok (.return_, 1) := by decide +kernel
theorem dX0_indexOf_0 : decode cX0_indexOf 0 = .ok (.iconst 0, 1) := by decide +kernel
theorem dX0_indexOf_1 : decode cX0_indexOf 1 = .ok (.istore 4, 2) := by decide +kernel
theorem dX0_indexOf_3 : decode cX0_indexOf 3 = .ok (.iload 4, 2) := by decide +kernel
theorem dX0_indexOf_5 : decode cX0_indexOf 5 = .ok (.iload_n 1, 1) := by decide +kernel
theorem dX0_indexOf_6 : decode cX0_indexOf 6 = .ok (.if_icmp .ge 28, 3) := by decide +kernel
theorem dX0_indexOf_9 : decode cX0_indexOf 9 = .ok (.iload 4, 2) := by decide +kernel
theorem dX0_indexOf_11 : decode cX0_indexOf 11 = .ok (.aload_n 0, 1) := by decide +kernel
theorem dX0_indexOf_12 : decode cX0_indexOf 12 = .ok (.arraylength, 1) := by decide +kernel
theorem dX0_indexOf_13 : decode cX0_indexOf 13 = .ok (.if_icmp .ge 21, 3) := by decide +kernel
theorem dX0_indexOf_16 : decode cX0_indexOf 16 = .ok (.aload_n 0, 1) := by decide +kernel
theorem dX0_indexOf_17 : decode cX0_indexOf 17 = .ok (.iload 4, 2) := by decide +kernel
theorem dX0_indexOf_19 : decode cX0_indexOf 19 = .ok (.laload, 1) := by decide +kernel
theorem dX0_indexOf_20 : decode cX0_indexOf 20 = .ok (.lload_n 2, 1) := by decide +kernel
theorem dX0_indexOf_21 : decode cX0_indexOf 21 = .ok (.lcmp, 1) := by decide +kernel
theorem dX0_indexOf_22 : decode cX0_indexOf 22 = .ok (.ifCond .ne 6, 3) := by decide +kernel
theorem dX0_indexOf_25 : decode cX0_indexOf 25 = .ok (.iload 4, 2) := by decide +kernel
theorem dX0_indexOf_27 : decode cX0_indexOf 27 = .ok (.ireturn, 1) := by decide +kernel
theorem dX0_indexOf_28 : decode cX0_indexOf 28 = .ok (.iinc 4 1, 3) := by decide +kernel
theorem dX0_indexOf_31 : decode cX0_indexOf 31 = .ok (.goto (-28), 3) := by decide +kernel
theorem dX0_indexOf_34 : decode cX0_indexOf 34 = .ok (.iconst (-1), 1) := by decide +kernel
theorem dX0_indexOf_35 : decode cX0_indexOf 35 = .ok (.ireturn, 1) := by decide +kernel
theorem dX0_hasRun_0 : decode cX0_hasRun 0 = .ok (.aload_n 0, 1) := by decide +kernel
theorem dX0_hasRun_1 : decode cX0_hasRun 1 = .ok (.getfield 38, 3) := by decide +kernel
theorem dX0_hasRun_4 : decode cX0_hasRun 4 = .ok (.iload_n 1, 1) := by decide +kernel
theorem dX0_hasRun_5 : decode cX0_hasRun 5 = .ok (.iconst 5, 1) := by decide +kernel
theorem dX0_hasRun_6 : decode cX0_hasRun 6 = .ok (.imul, 1) := by decide +kernel
theorem dX0_hasRun_7 : decode cX0_hasRun 7 = .ok (.iload_n 2, 1) := by decide +kernel
theorem dX0_hasRun_8 : decode cX0_hasRun 8 = .ok (.iadd, 1) := by decide +kernel
theorem dX0_hasRun_9 : decode cX0_hasRun 9 = .ok (.iaload, 1) := by decide +kernel
theorem dX0_hasRun_10 : decode cX0_hasRun 10 = .ok (.iconst (-1), 1) := by decide +kernel
theorem dX0_hasRun_11 : decode cX0_hasRun 11 = .ok (.if_icmp .eq 7, 3) := by decide +kernel
theorem dX0_hasRun_14 : decode cX0_hasRun 14 = .ok (.iconst 1, 1) := by decide +kernel
theorem dX0_hasRun_15 : decode cX0_hasRun 15 = .ok (.goto 4, 3) := by decide +kernel
theorem dX0_hasRun_18 : decode cX0_hasRun 18 = .ok (.iconst 0, 1) := by decide +kernel
theorem dX0_hasRun_19 : decode cX0_hasRun 19 = .ok (.ireturn, 1) := by decide +kernel
theorem dX0_tellRun_0 : decode cX0_tellRun 0 = .ok (.aload_n 0, 1) := by decide +kernel
theorem dX0_tellRun_1 : decode cX0_tellRun 1 = .ok (.getfield 38, 3) := by decide +kernel
theorem dX0_tellRun_4 : decode cX0_tellRun 4 = .ok (.iload_n 1, 1) := by decide +kernel
theorem dX0_tellRun_5 : decode cX0_tellRun 5 = .ok (.iconst 5, 1) := by decide +kernel
theorem dX0_tellRun_6 : decode cX0_tellRun 6 = .ok (.imul, 1) := by decide +kernel
theorem dX0_tellRun_7 : decode cX0_tellRun 7 = .ok (.iload_n 2, 1) := by decide +kernel
theorem dX0_tellRun_8 : decode cX0_tellRun 8 = .ok (.iadd, 1) := by decide +kernel
theorem dX0_tellRun_9 : decode cX0_tellRun 9 = .ok (.iload_n 3, 1) := by decide +kernel
theorem dX0_tellRun_10 : decode cX0_tellRun 10 = .ok (.iastore, 1) := by decide +kernel
theorem dX0_tellRun_11 : decode cX0_tellRun 11 = .ok (.aload_n 0, 1) := by decide +kernel
theorem dX0_tellRun_12 : decode cX0_tellRun 12 = .ok (.getfield 38, 3) := by decide +kernel
theorem dX0_tellRun_15 : decode cX0_tellRun 15 = .ok (.iload_n 2, 1) := by decide +kernel
theorem dX0_tellRun_16 : decode cX0_tellRun 16 = .ok (.iconst 5, 1) := by decide +kernel
theorem dX0_tellRun_17 : decode cX0_tellRun 17 = .ok (.imul, 1) := by decide +kernel
theorem dX0_tellRun_18 : decode cX0_tellRun 18 = .ok (.iload_n 1, 1) := by decide +kernel
theorem dX0_tellRun_19 : decode cX0_tellRun 19 = .ok (.iadd, 1) := by decide +kernel
theorem dX0_tellRun_20 : decode cX0_tellRun 20 = .ok (.iload_n 3, 1) := by decide +kernel
theorem dX0_tellRun_21 : decode cX0_tellRun 21 = .ok (.iastore, 1) := by decide +kernel
theorem dX0_tellRun_22 : decode cX0_tellRun 22 = .ok (.return_, 1) := by decide +kernel
theorem dX0_minutesBetween_0 : decode cX0_minutesBetween 0 = .ok (.iload_n 1, 1) := by decide +kernel
theorem dX0_minutesBetween_1 : decode cX0_minutesBetween 1 = .ok (.iload_n 2, 1) := by decide +kernel
theorem dX0_minutesBetween_2 : decode cX0_minutesBetween 2 = .ok (.if_icmp .ne 5, 3) := by decide +kernel
theorem dX0_minutesBetween_5 : decode cX0_minutesBetween 5 = .ok (.iconst 0, 1) := by decide +kernel
theorem dX0_minutesBetween_6 : decode cX0_minutesBetween 6 = .ok (.ireturn, 1) := by decide +kernel
theorem dX0_minutesBetween_7 : decode cX0_minutesBetween 7 = .ok (.aload_n 0, 1) := by decide +kernel
theorem dX0_minutesBetween_8 : decode cX0_minutesBetween 8 = .ok (.iload_n 1, 1) := by decide +kernel
theorem dX0_minutesBetween_9 : decode cX0_minutesBetween 9 = .ok (.iload_n 2, 1) := by decide +kernel
theorem dX0_minutesBetween_10 : decode cX0_minutesBetween 10 = .ok (.invokevirtual 87, 3) := by decide +kernel
theorem dX0_minutesBetween_13 : decode cX0_minutesBetween 13 = .ok (.ifCond .eq 16, 3) := by decide +kernel
theorem dX0_minutesBetween_16 : decode cX0_minutesBetween 16 = .ok (.aload_n 0, 1) := by decide +kernel
theorem dX0_minutesBetween_17 : decode cX0_minutesBetween 17 = .ok (.getfield 38, 3) := by decide +kernel
theorem dX0_minutesBetween_20 : decode cX0_minutesBetween 20 = .ok (.iload_n 1, 1) := by decide +kernel
theorem dX0_minutesBetween_21 : decode cX0_minutesBetween 21 = .ok (.iconst 5, 1) := by decide +kernel
theorem dX0_minutesBetween_22 : decode cX0_minutesBetween 22 = .ok (.imul, 1) := by decide +kernel
theorem dX0_minutesBetween_23 : decode cX0_minutesBetween 23 = .ok (.iload_n 2, 1) := by decide +kernel
theorem dX0_minutesBetween_24 : decode cX0_minutesBetween 24 = .ok (.iadd, 1) := by decide +kernel
theorem dX0_minutesBetween_25 : decode cX0_minutesBetween 25 = .ok (.iaload, 1) := by decide +kernel
theorem dX0_minutesBetween_26 : decode cX0_minutesBetween 26 = .ok (.goto 4, 3) := by decide +kernel
theorem dX0_minutesBetween_29 : decode cX0_minutesBetween 29 = .ok (.iconst 5, 1) := by decide +kernel
theorem dX0_minutesBetween_30 : decode cX0_minutesBetween 30 = .ok (.ireturn, 1) := by decide +kernel
theorem dX0_general_0 : decode cX0_general 0 = .ok (.iload_n 1, 1) := by decide +kernel
theorem dX0_general_1 : decode cX0_general 1 = .ok (.tableswitch 42 0 2 #[27, 32, 37], 27) := by decide +kernel
theorem dX0_general_28 : decode cX0_general 28 = .ok (.aload_n 0, 1) := by decide +kernel
theorem dX0_general_29 : decode cX0_general 29 = .ok (.getfield 74, 3) := by decide +kernel
theorem dX0_general_32 : decode cX0_general 32 = .ok (.ireturn, 1) := by decide +kernel
theorem dX0_general_33 : decode cX0_general 33 = .ok (.aload_n 0, 1) := by decide +kernel
theorem dX0_general_34 : decode cX0_general 34 = .ok (.getfield 78, 3) := by decide +kernel
theorem dX0_general_37 : decode cX0_general 37 = .ok (.ireturn, 1) := by decide +kernel
theorem dX0_general_38 : decode cX0_general 38 = .ok (.aload_n 0, 1) := by decide +kernel
theorem dX0_general_39 : decode cX0_general 39 = .ok (.getfield 81, 3) := by decide +kernel
theorem dX0_general_42 : decode cX0_general 42 = .ok (.ireturn, 1) := by decide +kernel
theorem dX0_general_43 : decode cX0_general 43 = .ok (.iload_n 1, 1) := by decide +kernel
theorem dX0_general_44 : decode cX0_general 44 = .ok (.iconst 3, 1) := by decide +kernel
theorem dX0_general_45 : decode cX0_general 45 = .ok (.if_icmp .lt 20, 3) := by decide +kernel
theorem dX0_general_48 : decode cX0_general 48 = .ok (.iload_n 1, 1) := by decide +kernel
theorem dX0_general_49 : decode cX0_general 49 = .ok (.getstatic 9, 3) := by decide +kernel
theorem dX0_general_52 : decode cX0_general 52 = .ok (.arraylength, 1) := by decide +kernel
theorem dX0_general_53 : decode cX0_general 53 = .ok (.if_icmp .ge 12, 3) := by decide +kernel
theorem dX0_general_56 : decode cX0_general 56 = .ok (.aload_n 0, 1) := by decide +kernel
theorem dX0_general_57 : decode cX0_general 57 = .ok (.getfield 15, 3) := by decide +kernel
theorem dX0_general_60 : decode cX0_general 60 = .ok (.iload_n 1, 1) := by decide +kernel
theorem dX0_general_61 : decode cX0_general 61 = .ok (.iaload, 1) := by decide +kernel
theorem dX0_general_62 : decode cX0_general 62 = .ok (.goto 4, 3) := by decide +kernel
theorem dX0_general_65 : decode cX0_general 65 = .ok (.iconst (-1), 1) := by decide +kernel
theorem dX0_general_66 : decode cX0_general 66 = .ok (.ireturn, 1) := by decide +kernel
theorem dX0_ofHut_0 : decode cX0_ofHut 0 = .ok (.iload_n 2, 1) := by decide +kernel
theorem dX0_ofHut_1 : decode cX0_ofHut 1 = .ok (.ifCond .lt 11, 3) := by decide +kernel
theorem dX0_ofHut_4 : decode cX0_ofHut 4 = .ok (.iload_n 2, 1) := by decide +kernel
theorem dX0_ofHut_5 : decode cX0_ofHut 5 = .ok (.aload_n 0, 1) := by decide +kernel
theorem dX0_ofHut_6 : decode cX0_ofHut 6 = .ok (.getfield 74, 3) := by decide +kernel
theorem dX0_ofHut_9 : decode cX0_ofHut 9 = .ok (.if_icmp .lt 5, 3) := by decide +kernel
theorem dX0_ofHut_12 : decode cX0_ofHut 12 = .ok (.iconst (-1), 1) := by decide +kernel
theorem dX0_ofHut_13 : decode cX0_ofHut 13 = .ok (.ireturn, 1) := by decide +kernel
theorem dX0_ofHut_14 : decode cX0_ofHut 14 = .ok (.iload_n 1, 1) := by decide +kernel
theorem dX0_ofHut_15 : decode cX0_ofHut 15 = .ok (.tableswitch 46 2 4 #[25, 32, 39], 25) := by decide +kernel
theorem dX0_ofHut_40 : decode cX0_ofHut 40 = .ok (.aload_n 0, 1) := by decide +kernel
theorem dX0_ofHut_41 : decode cX0_ofHut 41 = .ok (.getfield 26, 3) := by decide +kernel
theorem dX0_ofHut_44 : decode cX0_ofHut 44 = .ok (.iload_n 2, 1) := by decide +kernel
theorem dX0_ofHut_45 : decode cX0_ofHut 45 = .ok (.iaload, 1) := by decide +kernel
theorem dX0_ofHut_46 : decode cX0_ofHut 46 = .ok (.ireturn, 1) := by decide +kernel
theorem dX0_ofHut_47 : decode cX0_ofHut 47 = .ok (.aload_n 0, 1) := by decide +kernel
theorem dX0_ofHut_48 : decode cX0_ofHut 48 = .ok (.getfield 29, 3) := by decide +kernel
theorem dX0_ofHut_51 : decode cX0_ofHut 51 = .ok (.iload_n 2, 1) := by decide +kernel
theorem dX0_ofHut_52 : decode cX0_ofHut 52 = .ok (.iaload, 1) := by decide +kernel
theorem dX0_ofHut_53 : decode cX0_ofHut 53 = .ok (.ireturn, 1) := by decide +kernel
theorem dX0_ofHut_54 : decode cX0_ofHut 54 = .ok (.aload_n 0, 1) := by decide +kernel
theorem dX0_ofHut_55 : decode cX0_ofHut 55 = .ok (.getfield 32, 3) := by decide +kernel
theorem dX0_ofHut_58 : decode cX0_ofHut 58 = .ok (.iload_n 2, 1) := by decide +kernel
theorem dX0_ofHut_59 : decode cX0_ofHut 59 = .ok (.iaload, 1) := by decide +kernel
theorem dX0_ofHut_60 : decode cX0_ofHut 60 = .ok (.ireturn, 1) := by decide +kernel
theorem dX0_ofHut_61 : decode cX0_ofHut 61 = .ok (.aload_n 0, 1) := by decide +kernel
theorem dX0_ofHut_62 : decode cX0_ofHut 62 = .ok (.getfield 35, 3) := by decide +kernel
theorem dX0_ofHut_65 : decode cX0_ofHut 65 = .ok (.iload_n 2, 1) := by decide +kernel
theorem dX0_ofHut_66 : decode cX0_ofHut 66 = .ok (.iaload, 1) := by decide +kernel
theorem dX0_ofHut_67 : decode cX0_ofHut 67 = .ok (.ireturn, 1) := by decide +kernel
theorem dX0_ofGarden_0 : decode cX0_ofGarden 0 = .ok (.iload_n 2, 1) := by decide +kernel
theorem dX0_ofGarden_1 : decode cX0_ofGarden 1 = .ok (.ifCond .lt 11, 3) := by decide +kernel
theorem dX0_ofGarden_4 : decode cX0_ofGarden 4 = .ok (.iload_n 2, 1) := by decide +kernel
theorem dX0_ofGarden_5 : decode cX0_ofGarden 5 = .ok (.aload_n 0, 1) := by decide +kernel
theorem dX0_ofGarden_6 : decode cX0_ofGarden 6 = .ok (.getfield 78, 3) := by decide +kernel
theorem dX0_ofGarden_9 : decode cX0_ofGarden 9 = .ok (.if_icmp .lt 5, 3) := by decide +kernel
theorem dX0_ofGarden_12 : decode cX0_ofGarden 12 = .ok (.iconst (-1), 1) := by decide +kernel
theorem dX0_ofGarden_13 : decode cX0_ofGarden 13 = .ok (.ireturn, 1) := by decide +kernel
theorem dX0_ofGarden_14 : decode cX0_ofGarden 14 = .ok (.iload_n 1, 1) := by decide +kernel
theorem dX0_ofGarden_15 : decode cX0_ofGarden 15 = .ok (.lookupswitch 39 #[(6, 25), (7, 32)], 25) := by decide +kernel
theorem dX0_ofGarden_40 : decode cX0_ofGarden 40 = .ok (.aload_n 0, 1) := by decide +kernel
theorem dX0_ofGarden_41 : decode cX0_ofGarden 41 = .ok (.getfield 44, 3) := by decide +kernel
theorem dX0_ofGarden_44 : decode cX0_ofGarden 44 = .ok (.iload_n 2, 1) := by decide +kernel
theorem dX0_ofGarden_45 : decode cX0_ofGarden 45 = .ok (.iaload, 1) := by decide +kernel
theorem dX0_ofGarden_46 : decode cX0_ofGarden 46 = .ok (.ireturn, 1) := by decide +kernel
theorem dX0_ofGarden_47 : decode cX0_ofGarden 47 = .ok (.aload_n 0, 1) := by decide +kernel
theorem dX0_ofGarden_48 : decode cX0_ofGarden 48 = .ok (.getfield 47, 3) := by decide +kernel
theorem dX0_ofGarden_51 : decode cX0_ofGarden 51 = .ok (.iload_n 2, 1) := by decide +kernel
theorem dX0_ofGarden_52 : decode cX0_ofGarden 52 = .ok (.iaload, 1) := by decide +kernel
theorem dX0_ofGarden_53 : decode cX0_ofGarden 53 = .ok (.ireturn, 1) := by decide +kernel
theorem dX0_ofGarden_54 : decode cX0_ofGarden 54 = .ok (.aload_n 0, 1) := by decide +kernel
theorem dX0_ofGarden_55 : decode cX0_ofGarden 55 = .ok (.getfield 50, 3) := by decide +kernel
theorem dX0_ofGarden_58 : decode cX0_ofGarden 58 = .ok (.iload_n 2, 1) := by decide +kernel
theorem dX0_ofGarden_59 : decode cX0_ofGarden 59 = .ok (.iaload, 1) := by decide +kernel
theorem dX0_ofGarden_60 : decode cX0_ofGarden 60 = .ok (.ireturn, 1) := by decide +kernel
theorem dX0_allBoards_0 : decode cX0_allBoards 0 = .ok (.iconst 0, 1) := by decide +kernel
theorem dX0_allBoards_1 : decode cX0_allBoards 1 = .ok (.istore_n 1, 1) := by decide +kernel
theorem dX0_allBoards_2 : decode cX0_allBoards 2 = .ok (.iconst 0, 1) := by decide +kernel
theorem dX0_allBoards_3 : decode cX0_allBoards 3 = .ok (.istore_n 2, 1) := by decide +kernel
theorem dX0_allBoards_4 : decode cX0_allBoards 4 = .ok (.iload_n 2, 1) := by decide +kernel
theorem dX0_allBoards_5 : decode cX0_allBoards 5 = .ok (.aload_n 0, 1) := by decide +kernel
theorem dX0_allBoards_6 : decode cX0_allBoards 6 = .ok (.getfield 74, 3) := by decide +kernel
theorem dX0_allBoards_9 : decode cX0_allBoards 9 = .ok (.if_icmp .ge 18, 3) := by decide +kernel
theorem dX0_allBoards_12 : decode cX0_allBoards 12 = .ok (.iload_n 1, 1) := by decide +kernel
theorem dX0_allBoards_13 : decode cX0_allBoards 13 = .ok (.aload_n 0, 1) := by decide +kernel
theorem dX0_allBoards_14 : decode cX0_allBoards 14 = .ok (.getfield 32, 3) := by decide +kernel
theorem dX0_allBoards_17 : decode cX0_allBoards 17 = .ok (.iload_n 2, 1) := by decide +kernel
theorem dX0_allBoards_18 : decode cX0_allBoards 18 = .ok (.iaload, 1) := by decide +kernel
theorem dX0_allBoards_19 : decode cX0_allBoards 19 = .ok (.iadd, 1) := by decide +kernel
theorem dX0_allBoards_20 : decode cX0_allBoards 20 = .ok (.istore_n 1, 1) := by decide +kernel
theorem dX0_allBoards_21 : decode cX0_allBoards 21 = .ok (.iinc 2 1, 3) := by decide +kernel
theorem dX0_allBoards_24 : decode cX0_allBoards 24 = .ok (.goto (-20), 3) := by decide +kernel
theorem dX0_allBoards_27 : decode cX0_allBoards 27 = .ok (.iload_n 1, 1) := by decide +kernel
theorem dX0_allBoards_28 : decode cX0_allBoards 28 = .ok (.iconst 0, 1) := by decide +kernel
theorem dX0_allBoards_29 : decode cX0_allBoards 29 = .ok (.aload_n 0, 1) := by decide +kernel
theorem dX0_allBoards_30 : decode cX0_allBoards 30 = .ok (.getfield 15, 3) := by decide +kernel
theorem dX0_allBoards_33 : decode cX0_allBoards 33 = .ok (.bipush 12, 2) := by decide +kernel
theorem dX0_allBoards_35 : decode cX0_allBoards 35 = .ok (.iaload, 1) := by decide +kernel
theorem dX0_allBoards_36 : decode cX0_allBoards 36 = .ok (.aload_n 0, 1) := by decide +kernel
theorem dX0_allBoards_37 : decode cX0_allBoards 37 = .ok (.getfield 15, 3) := by decide +kernel
theorem dX0_allBoards_40 : decode cX0_allBoards 40 = .ok (.bipush 13, 2) := by decide +kernel
theorem dX0_allBoards_42 : decode cX0_allBoards 42 = .ok (.iaload, 1) := by decide +kernel
theorem dX0_allBoards_43 : decode cX0_allBoards 43 = .ok (.isub, 1) := by decide +kernel
theorem dX0_allBoards_44 : decode cX0_allBoards 44 = .ok (.invokestatic 91, 3) := by decide +kernel
theorem dX0_allBoards_47 : decode cX0_allBoards 47 = .ok (.imul, 1) := by decide +kernel
theorem dX0_allBoards_48 : decode cX0_allBoards 48 = .ok (.ireturn, 1) := by decide +kernel
theorem dX0_isInReach_0 : decode cX0_isInReach 0 = .ok (.aload_n 0, 1) := by decide +kernel
theorem dX0_isInReach_1 : decode cX0_isInReach 1 = .ok (.getfield 44, 3) := by decide +kernel
theorem dX0_isInReach_4 : decode cX0_isInReach 4 = .ok (.iload_n 2, 1) := by decide +kernel
theorem dX0_isInReach_5 : decode cX0_isInReach 5 = .ok (.iaload, 1) := by decide +kernel
theorem dX0_isInReach_6 : decode cX0_isInReach 6 = .ok (.aload_n 0, 1) := by decide +kernel
theorem dX0_isInReach_7 : decode cX0_isInReach 7 = .ok (.getfield 26, 3) := by decide +kernel
theorem dX0_isInReach_10 : decode cX0_isInReach 10 = .ok (.iload_n 1, 1) := by decide +kernel
theorem dX0_isInReach_11 : decode cX0_isInReach 11 = .ok (.iaload, 1) := by decide +kernel
theorem dX0_isInReach_12 : decode cX0_isInReach 12 = .ok (.isub, 1) := by decide +kernel
theorem dX0_isInReach_13 : decode cX0_isInReach 13 = .ok (.invokestatic 97, 3) := by decide +kernel
theorem dX0_isInReach_16 : decode cX0_isInReach 16 = .ok (.aload_n 0, 1) := by decide +kernel
theorem dX0_isInReach_17 : decode cX0_isInReach 17 = .ok (.getfield 29, 3) := by decide +kernel
theorem dX0_isInReach_20 : decode cX0_isInReach 20 = .ok (.iload_n 1, 1) := by decide +kernel
theorem dX0_isInReach_21 : decode cX0_isInReach 21 = .ok (.iaload, 1) := by decide +kernel
theorem dX0_isInReach_22 : decode cX0_isInReach 22 = .ok (.iadd, 1) := by decide +kernel
theorem dX0_isInReach_23 : decode cX0_isInReach 23 = .ok (.aload_n 0, 1) := by decide +kernel
theorem dX0_isInReach_24 : decode cX0_isInReach 24 = .ok (.getfield 15, 3) := by decide +kernel
theorem dX0_isInReach_27 : decode cX0_isInReach 27 = .ok (.bipush 7, 2) := by decide +kernel
theorem dX0_isInReach_29 : decode cX0_isInReach 29 = .ok (.iaload, 1) := by decide +kernel
theorem dX0_isInReach_30 : decode cX0_isInReach 30 = .ok (.if_icmp .gt 7, 3) := by decide +kernel
theorem dX0_isInReach_33 : decode cX0_isInReach 33 = .ok (.iconst 1, 1) := by decide +kernel
theorem dX0_isInReach_34 : decode cX0_isInReach 34 = .ok (.goto 4, 3) := by decide +kernel
theorem dX0_isInReach_37 : decode cX0_isInReach 37 = .ok (.iconst 0, 1) := by decide +kernel
theorem dX0_isInReach_38 : decode cX0_isInReach 38 = .ok (.ireturn, 1) := by decide +kernel
theorem dX0_pumpMen_0 : decode cX0_pumpMen 0 = .ok (.aload_n 0, 1) := by decide +kernel
theorem dX0_pumpMen_1 : decode cX0_pumpMen 1 = .ok (.getfield 15, 3) := by decide +kernel
theorem dX0_pumpMen_4 : decode cX0_pumpMen 4 = .ok (.bipush 9, 2) := by decide +kernel
theorem dX0_pumpMen_6 : decode cX0_pumpMen 6 = .ok (.iaload, 1) := by decide +kernel
theorem dX0_pumpMen_7 : decode cX0_pumpMen 7 = .ok (.istore_n 2, 1) := by decide +kernel
theorem dX0_pumpMen_8 : decode cX0_pumpMen 8 = .ok (.iload_n 2, 1) := by decide +kernel
theorem dX0_pumpMen_9 : decode cX0_pumpMen 9 = .ok (.ifCond .le 9, 3) := by decide +kernel
theorem dX0_pumpMen_12 : decode cX0_pumpMen 12 = .ok (.iload_n 1, 1) := by decide +kernel
theorem dX0_pumpMen_13 : decode cX0_pumpMen 13 = .ok (.iload_n 2, 1) := by decide +kernel
theorem dX0_pumpMen_14 : decode cX0_pumpMen 14 = .ok (.idiv, 1) := by decide +kernel
theorem dX0_pumpMen_15 : decode cX0_pumpMen 15 = .ok (.goto 4, 3) := by decide +kernel
theorem dX0_pumpMen_18 : decode cX0_pumpMen 18 = .ok (.iconst 0, 1) := by decide +kernel
theorem dX0_pumpMen_19 : decode cX0_pumpMen 19 = .ok (.ireturn, 1) := by decide +kernel
theorem dX0_tenthsDug_0 : decode cX0_tenthsDug 0 = .ok (.iconst 0, 1) := by decide +kernel
theorem dX0_tenthsDug_1 : decode cX0_tenthsDug 1 = .ok (.iload_n 2, 1) := by decide +kernel
theorem dX0_tenthsDug_2 : decode cX0_tenthsDug 2 = .ok (.aload_n 0, 1) := by decide +kernel
theorem dX0_tenthsDug_3 : decode cX0_tenthsDug 3 = .ok (.iload_n 1, 1) := by decide +kernel
theorem dX0_tenthsDug_4 : decode cX0_tenthsDug 4 = .ok (.invokevirtual 101, 3) := by decide +kernel
theorem dX0_tenthsDug_7 : decode cX0_tenthsDug 7 = .ok (.isub, 1) := by decide +kernel
theorem dX0_tenthsDug_8 : decode cX0_tenthsDug 8 = .ok (.invokestatic 91, 3) := by decide +kernel
theorem dX0_tenthsDug_11 : decode cX0_tenthsDug 11 = .ok (.aload_n 0, 1) := by decide +kernel
theorem dX0_tenthsDug_12 : decode cX0_tenthsDug 12 = .ok (.getfield 15, 3) := by decide +kernel
theorem dX0_tenthsDug_15 : decode cX0_tenthsDug 15 = .ok (.bipush 10, 2) := by decide +kernel
theorem dX0_tenthsDug_17 : decode cX0_tenthsDug 17 = .ok (.iaload, 1) := by decide +kernel
theorem dX0_tenthsDug_18 : decode cX0_tenthsDug 18 = .ok (.imul, 1) := by decide +kernel
theorem dX0_tenthsDug_19 : decode cX0_tenthsDug 19 = .ok (.ireturn, 1) := by decide +kernel
theorem dX0_shiftsFor_0 : decode cX0_shiftsFor 0 = .ok (.iconst 0, 1) := by decide +kernel
theorem dX0_shiftsFor_1 : decode cX0_shiftsFor 1 = .ok (.istore_n 3, 1) := by decide +kernel
theorem dX0_shiftsFor_2 : decode cX0_shiftsFor 2 = .ok (.iconst 1, 1) := by decide +kernel
theorem dX0_shiftsFor_3 : decode cX0_shiftsFor 3 = .ok (.istore 4, 2) := by decide +kernel
theorem dX0_shiftsFor_5 : decode cX0_shiftsFor 5 = .ok (.iload 4, 2) := by decide +kernel
theorem dX0_shiftsFor_7 : decode cX0_shiftsFor 7 = .ok (.sipush 400, 3) := by decide +kernel
theorem dX0_shiftsFor_10 : decode cX0_shiftsFor 10 = .ok (.if_icmp .gt 32, 3) := by decide +kernel
theorem dX0_shiftsFor_13 : decode cX0_shiftsFor 13 = .ok (.iload_n 3, 1) := by decide +kernel
theorem dX0_shiftsFor_14 : decode cX0_shiftsFor 14 = .ok (.aload_n 0, 1) := by decide +kernel
theorem dX0_shiftsFor_15 : decode cX0_shiftsFor 15 = .ok (.iload_n 3, 1) := by decide +kernel
theorem dX0_shiftsFor_16 : decode cX0_shiftsFor 16 = .ok (.bipush 10, 2) := by decide +kernel
theorem dX0_shiftsFor_18 : decode cX0_shiftsFor 18 = .ok (.idiv, 1) := by decide +kernel
theorem dX0_shiftsFor_19 : decode cX0_shiftsFor 19 = .ok (.iload_n 2, 1) := by decide +kernel
theorem dX0_shiftsFor_20 : decode cX0_shiftsFor 20 = .ok (.invokevirtual 104, 3) := by decide +kernel
theorem dX0_shiftsFor_23 : decode cX0_shiftsFor 23 = .ok (.iadd, 1) := by decide +kernel
theorem dX0_shiftsFor_24 : decode cX0_shiftsFor 24 = .ok (.istore_n 3, 1) := by decide +kernel
theorem dX0_shiftsFor_25 : decode cX0_shiftsFor 25 = .ok (.iload_n 3, 1) := by decide +kernel
theorem dX0_shiftsFor_26 : decode cX0_shiftsFor 26 = .ok (.bipush 10, 2) := by decide +kernel
theorem dX0_shiftsFor_28 : decode cX0_shiftsFor 28 = .ok (.idiv, 1) := by decide +kernel
theorem dX0_shiftsFor_29 : decode cX0_shiftsFor 29 = .ok (.iload_n 1, 1) := by decide +kernel
theorem dX0_shiftsFor_30 : decode cX0_shiftsFor 30 = .ok (.if_icmp .lt 6, 3) := by decide +kernel
theorem dX0_shiftsFor_33 : decode cX0_shiftsFor 33 = .ok (.iload 4, 2) := by decide +kernel
theorem dX0_shiftsFor_35 : decode cX0_shiftsFor 35 = .ok (.ireturn, 1) := by decide +kernel
theorem dX0_shiftsFor_36 : decode cX0_shiftsFor 36 = .ok (.iinc 4 1, 3) := by decide +kernel
theorem dX0_shiftsFor_39 : decode cX0_shiftsFor 39 = .ok (.goto (-34), 3) := by decide +kernel
theorem dX0_shiftsFor_42 : decode cX0_shiftsFor 42 = .ok (.iconst (-1), 1) := by decide +kernel
theorem dX0_shiftsFor_43 : decode cX0_shiftsFor 43 = .ok (.ireturn, 1) := by decide +kernel
theorem dX0_bestCrossing_0 : decode cX0_bestCrossing 0 = .ok (.iconst 0, 1) := by decide +kernel
theorem dX0_bestCrossing_1 : decode cX0_bestCrossing 1 = .ok (.istore_n 3, 1) := by decide +kernel
theorem dX0_bestCrossing_2 : decode cX0_bestCrossing 2 = .ok (.iconst (-1), 1) := by decide +kernel
theorem dX0_bestCrossing_3 : decode cX0_bestCrossing 3 = .ok (.istore 4, 2) := by decide +kernel
theorem dX0_bestCrossing_5 : decode cX0_bestCrossing 5 = .ok (.aload_n 0, 1) := by decide +kernel
theorem dX0_bestCrossing_6 : decode cX0_bestCrossing 6 = .ok (.getfield 15, 3) := by decide +kernel
theorem dX0_bestCrossing_9 : decode cX0_bestCrossing 9 = .ok (.iconst 3, 1) := by decide +kernel
theorem dX0_bestCrossing_10 : decode cX0_bestCrossing 10 = .ok (.iaload, 1) := by decide +kernel
theorem dX0_bestCrossing_11 : decode cX0_bestCrossing 11 = .ok (.iload_n 1, 1) := by decide +kernel
theorem dX0_bestCrossing_12 : decode cX0_bestCrossing 12 = .ok (.isub, 1) := by decide +kernel
theorem dX0_bestCrossing_13 : decode cX0_bestCrossing 13 = .ok (.istore 5, 2) := by decide +kernel
theorem dX0_bestCrossing_15 : decode cX0_bestCrossing 15 = .ok (.iconst 0, 1) := by decide +kernel
theorem dX0_bestCrossing_16 : decode cX0_bestCrossing 16 = .ok (.istore 6, 2) := by decide +kernel
theorem dX0_bestCrossing_18 : decode cX0_bestCrossing 18 = .ok (.iload 6, 2) := by decide +kernel
theorem dX0_bestCrossing_20 : decode cX0_bestCrossing 20 = .ok (.iload 5, 2) := by decide +kernel
theorem dX0_bestCrossing_22 : decode cX0_bestCrossing 22 = .ok (.if_icmp .gt 33, 3) := by decide +kernel
theorem dX0_bestCrossing_25 : decode cX0_bestCrossing 25 = .ok (.aload_n 0, 1) := by decide +kernel
theorem dX0_bestCrossing_26 : decode cX0_bestCrossing 26 = .ok (.iload 6, 2) := by decide +kernel
theorem dX0_bestCrossing_28 : decode cX0_bestCrossing 28 = .ok (.iload_n 1, 1) := by decide +kernel
theorem dX0_bestCrossing_29 : decode cX0_bestCrossing 29 = .ok (.iload_n 2, 1) := by decide +kernel
theorem dX0_bestCrossing_30 : decode cX0_bestCrossing 30 = .ok (.invokevirtual 107, 3) := by decide +kernel
theorem dX0_bestCrossing_33 : decode cX0_bestCrossing 33 = .ok (.istore 7, 2) := by decide +kernel
theorem dX0_bestCrossing_35 : decode cX0_bestCrossing 35 = .ok (.iload 7, 2) := by decide +kernel
theorem dX0_bestCrossing_37 : decode cX0_bestCrossing 37 = .ok (.iload 4, 2) := by decide +kernel
theorem dX0_bestCrossing_39 : decode cX0_bestCrossing 39 = .ok (.if_icmp .le 10, 3) := by decide +kernel
theorem dX0_bestCrossing_42 : decode cX0_bestCrossing 42 = .ok (.iload 6, 2) := by decide +kernel
theorem dX0_bestCrossing_44 : decode cX0_bestCrossing 44 = .ok (.istore_n 3, 1) := by decide +kernel
theorem dX0_bestCrossing_45 : decode cX0_bestCrossing 45 = .ok (.iload 7, 2) := by decide +kernel
theorem dX0_bestCrossing_47 : decode cX0_bestCrossing 47 = .ok (.istore 4, 2) := by decide +kernel
theorem dX0_bestCrossing_49 : decode cX0_bestCrossing 49 = .ok (.iinc 6 1, 3) := by decide +kernel
theorem dX0_bestCrossing_52 : decode cX0_bestCrossing 52 = .ok (.goto (-34), 3) := by decide +kernel
theorem dX0_bestCrossing_55 : decode cX0_bestCrossing 55 = .ok (.iload_n 3, 1) := by decide +kernel
theorem dX0_bestCrossing_56 : decode cX0_bestCrossing 56 = .ok (.ireturn, 1) := by decide +kernel
theorem dX0_metFrom_0 : decode cX0_metFrom 0 = .ok (.iconst 0, 1) := by decide +kernel
theorem dX0_metFrom_1 : decode cX0_metFrom 1 = .ok (.istore 4, 2) := by decide +kernel
theorem dX0_metFrom_3 : decode cX0_metFrom 3 = .ok (.iconst 0, 1) := by decide +kernel
theorem dX0_metFrom_4 : decode cX0_metFrom 4 = .ok (.istore 5, 2) := by decide +kernel
theorem dX0_metFrom_6 : decode cX0_metFrom 6 = .ok (.iload 5, 2) := by decide +kernel
theorem dX0_metFrom_8 : decode cX0_metFrom 8 = .ok (.aload_n 0, 1) := by decide +kernel
theorem dX0_metFrom_9 : decode cX0_metFrom 9 = .ok (.getfield 74, 3) := by decide +kernel
theorem dX0_metFrom_12 : decode cX0_metFrom 12 = .ok (.if_icmp .ge 65, 3) := by decide +kernel
theorem dX0_metFrom_15 : decode cX0_metFrom 15 = .ok (.iload_n 1, 1) := by decide +kernel
theorem dX0_metFrom_16 : decode cX0_metFrom 16 = .ok (.aload_n 0, 1) := by decide +kernel
theorem dX0_metFrom_17 : decode cX0_metFrom 17 = .ok (.getfield 26, 3) := by decide +kernel
theorem dX0_metFrom_20 : decode cX0_metFrom 20 = .ok (.iload 5, 2) := by decide +kernel
theorem dX0_metFrom_22 : decode cX0_metFrom 22 = .ok (.iaload, 1) := by decide +kernel
theorem dX0_metFrom_23 : decode cX0_metFrom 23 = .ok (.iload_n 3, 1) := by decide +kernel
theorem dX0_metFrom_24 : decode cX0_metFrom 24 = .ok (.isub, 1) := by decide +kernel
theorem dX0_metFrom_25 : decode cX0_metFrom 25 = .ok (.invokestatic 91, 3) := by decide +kernel
theorem dX0_metFrom_28 : decode cX0_metFrom 28 = .ok (.istore 6, 2) := by decide +kernel
theorem dX0_metFrom_30 : decode cX0_metFrom 30 = .ok (.iload_n 1, 1) := by decide +kernel
theorem dX0_metFrom_31 : decode cX0_metFrom 31 = .ok (.iload_n 2, 1) := by decide +kernel
theorem dX0_metFrom_32 : decode cX0_metFrom 32 = .ok (.iadd, 1) := by decide +kernel
theorem dX0_metFrom_33 : decode cX0_metFrom 33 = .ok (.aload_n 0, 1) := by decide +kernel
theorem dX0_metFrom_34 : decode cX0_metFrom 34 = .ok (.getfield 26, 3) := by decide +kernel
theorem dX0_metFrom_37 : decode cX0_metFrom 37 = .ok (.iload 5, 2) := by decide +kernel
theorem dX0_metFrom_39 : decode cX0_metFrom 39 = .ok (.iaload, 1) := by decide +kernel
theorem dX0_metFrom_40 : decode cX0_metFrom 40 = .ok (.iload_n 3, 1) := by decide +kernel
theorem dX0_metFrom_41 : decode cX0_metFrom 41 = .ok (.iadd, 1) := by decide +kernel
theorem dX0_metFrom_42 : decode cX0_metFrom 42 = .ok (.invokestatic 111, 3) := by decide +kernel
theorem dX0_metFrom_45 : decode cX0_metFrom 45 = .ok (.istore 7, 2) := by decide +kernel
theorem dX0_metFrom_47 : decode cX0_metFrom 47 = .ok (.iload 4, 2) := by decide +kernel
theorem dX0_metFrom_49 : decode cX0_metFrom 49 = .ok (.aload_n 0, 1) := by decide +kernel
theorem dX0_metFrom_50 : decode cX0_metFrom 50 = .ok (.getfield 32, 3) := by decide +kernel
theorem dX0_metFrom_53 : decode cX0_metFrom 53 = .ok (.iload 5, 2) := by decide +kernel
theorem dX0_metFrom_55 : decode cX0_metFrom 55 = .ok (.iaload, 1) := by decide +kernel
theorem dX0_metFrom_56 : decode cX0_metFrom 56 = .ok (.iconst 0, 1) := by decide +kernel
theorem dX0_metFrom_57 : decode cX0_metFrom 57 = .ok (.iload 7, 2) := by decide +kernel
theorem dX0_metFrom_59 : decode cX0_metFrom 59 = .ok (.iload 6, 2) := by decide +kernel
theorem dX0_metFrom_61 : decode cX0_metFrom 61 = .ok (.isub, 1) := by decide +kernel
theorem dX0_metFrom_62 : decode cX0_metFrom 62 = .ok (.iconst 1, 1) := by decide +kernel
theorem dX0_metFrom_63 : decode cX0_metFrom 63 = .ok (.iadd, 1) := by decide +kernel
theorem dX0_metFrom_64 : decode cX0_metFrom 64 = .ok (.invokestatic 91, 3) := by decide +kernel
theorem dX0_metFrom_67 : decode cX0_metFrom 67 = .ok (.imul, 1) := by decide +kernel
theorem dX0_metFrom_68 : decode cX0_metFrom 68 = .ok (.iadd, 1) := by decide +kernel
theorem dX0_metFrom_69 : decode cX0_metFrom 69 = .ok (.istore 4, 2) := by decide +kernel
theorem dX0_metFrom_71 : decode cX0_metFrom 71 = .ok (.iinc 5 1, 3) := by decide +kernel
theorem dX0_metFrom_74 : decode cX0_metFrom 74 = .ok (.goto (-68), 3) := by decide +kernel
theorem dX0_metFrom_77 : decode cX0_metFrom 77 = .ok (.iload 4, 2) := by decide +kernel
theorem dX0_metFrom_79 : decode cX0_metFrom 79 = .ok (.ireturn, 1) := by decide +kernel
theorem dX1_init_0 : decode cX1_init 0 = .ok (.aload_n 0, 1) := by decide +kernel
theorem dX1_init_1 : decode cX1_init 1 = .ok (.invokespecial 1, 3) := by decide +kernel
theorem dX1_init_4 : decode cX1_init 4 = .ok (.aload_n 0, 1) := by decide +kernel
theorem dX1_init_5 : decode cX1_init 5 = .ok (.lconst 1, 1) := by decide +kernel
theorem dX1_init_6 : decode cX1_init 6 = .ok (.putfield 7, 3) := by decide +kernel
theorem dX1_init_9 : decode cX1_init 9 = .ok (.return_, 1) := by decide +kernel
theorem dX1_draw_0 : decode cX1_draw 0 = .ok (.aload_n 0, 1) := by decide +kernel
theorem dX1_draw_1 : decode cX1_draw 1 = .ok (.ldc2_w 13, 3) := by decide +kernel
theorem dX1_draw_4 : decode cX1_draw 4 = .ok (.aload_n 0, 1) := by decide +kernel
theorem dX1_draw_5 : decode cX1_draw 5 = .ok (.getfield 7, 3) := by decide +kernel
theorem dX1_draw_8 : decode cX1_draw 8 = .ok (.lmul, 1) := by decide +kernel
theorem dX1_draw_9 : decode cX1_draw 9 = .ok (.ldc2_w 15, 3) := by decide +kernel
theorem dX1_draw_12 : decode cX1_draw 12 = .ok (.ladd, 1) := by decide +kernel
theorem dX1_draw_13 : decode cX1_draw 13 = .ok (.ldc2_w 17, 3) := by decide +kernel
theorem dX1_draw_16 : decode cX1_draw 16 = .ok (.lrem, 1) := by decide +kernel
theorem dX1_draw_17 : decode cX1_draw 17 = .ok (.putfield 7, 3) := by decide +kernel
theorem dX1_draw_20 : decode cX1_draw 20 = .ok (.iload_n 1, 1) := by decide +kernel
theorem dX1_draw_21 : decode cX1_draw 21 = .ok (.ifCond .le 18, 3) := by decide +kernel
theorem dX1_draw_24 : decode cX1_draw 24 = .ok (.aload_n 0, 1) := by decide +kernel
theorem dX1_draw_25 : decode cX1_draw 25 = .ok (.getfield 7, 3) := by decide +kernel
theorem dX1_draw_28 : decode cX1_draw 28 = .ok (.ldc2_w 19, 3) := by decide +kernel
theorem dX1_draw_31 : decode cX1_draw 31 = .ok (.ldiv, 1) := by decide +kernel
theorem dX1_draw_32 : decode cX1_draw 32 = .ok (.iload_n 1, 1) := by decide +kernel
theorem dX1_draw_33 : decode cX1_draw 33 = .ok (.i2l, 1) := by decide +kernel
theorem dX1_draw_34 : decode cX1_draw 34 = .ok (.lrem, 1) := by decide +kernel
theorem dX1_draw_35 : decode cX1_draw 35 = .ok (.l2i, 1) := by decide +kernel
theorem dX1_draw_36 : decode cX1_draw 36 = .ok (.goto 4, 3) := by decide +kernel
theorem dX1_draw_39 : decode cX1_draw 39 = .ok (.iconst 0, 1) := by decide +kernel
theorem dX1_draw_40 : decode cX1_draw 40 = .ok (.ireturn, 1) := by decide +kernel
theorem dX2_init_0 : decode cX2_init 0 = .ok (.aload_n 0, 1) := by decide +kernel
theorem dX2_init_1 : decode cX2_init 1 = .ok (.invokespecial 3, 3) := by decide +kernel
theorem dX2_init_4 : decode cX2_init 4 = .ok (.aload_n 0, 1) := by decide +kernel
theorem dX2_init_5 : decode cX2_init 5 = .ok (.iconst 5, 1) := by decide +kernel
theorem dX2_init_6 : decode cX2_init 6 = .ok (.newarray .int, 2) := by decide +kernel
theorem dX2_init_8 : decode cX2_init 8 = .ok (.putfield 9, 3) := by decide +kernel
theorem dX2_init_11 : decode cX2_init 11 = .ok (.aload_n 0, 1) := by decide +kernel
theorem dX2_init_12 : decode cX2_init 12 = .ok (.iconst 5, 1) := by decide +kernel
theorem dX2_init_13 : decode cX2_init 13 = .ok (.newarray .int, 2) := by decide +kernel
theorem dX2_init_15 : decode cX2_init 15 = .ok (.putfield 15, 3) := by decide +kernel
theorem dX2_init_18 : decode cX2_init 18 = .ok (.aload_n 0, 1) := by decide +kernel
theorem dX2_init_19 : decode cX2_init 19 = .ok (.iconst 5, 1) := by decide +kernel
theorem dX2_init_20 : decode cX2_init 20 = .ok (.newarray .int, 2) := by decide +kernel
theorem dX2_init_22 : decode cX2_init 22 = .ok (.putfield 18, 3) := by decide +kernel
theorem dX2_init_25 : decode cX2_init 25 = .ok (.aload_n 0, 1) := by decide +kernel
theorem dX2_init_26 : decode cX2_init 26 = .ok (.iconst 5, 1) := by decide +kernel
theorem dX2_init_27 : decode cX2_init 27 = .ok (.newarray .int, 2) := by decide +kernel
theorem dX2_init_29 : decode cX2_init 29 = .ok (.putfield 21, 3) := by decide +kernel
theorem dX2_init_32 : decode cX2_init 32 = .ok (.return_, 1) := by decide +kernel
theorem dX2_clear_0 : decode cX2_clear 0 = .ok (.aload_n 0, 1) := by decide +kernel
theorem dX2_clear_1 : decode cX2_clear 1 = .ok (.getfield 9, 3) := by decide +kernel
theorem dX2_clear_4 : decode cX2_clear 4 = .ok (.iconst 0, 1) := by decide +kernel
theorem dX2_clear_5 : decode cX2_clear 5 = .ok (.invokestatic 24, 3) := by decide +kernel
theorem dX2_clear_8 : decode cX2_clear 8 = .ok (.return_, 1) := by decide +kernel
theorem dX2_allMissing_0 : decode cX2_allMissing 0 = .ok (.iconst 0, 1) := by decide +kernel
theorem dX2_allMissing_1 : decode cX2_allMissing 1 = .ok (.istore_n 1, 1) := by decide +kernel
theorem dX2_allMissing_2 : decode cX2_allMissing 2 = .ok (.iconst 0, 1) := by decide +kernel
theorem dX2_allMissing_3 : decode cX2_allMissing 3 = .ok (.istore_n 2, 1) := by decide +kernel
theorem dX2_allMissing_4 : decode cX2_allMissing 4 = .ok (.iload_n 2, 1) := by decide +kernel
theorem dX2_allMissing_5 : decode cX2_allMissing 5 = .ok (.iconst 5, 1) := by decide +kernel
theorem dX2_allMissing_6 : decode cX2_allMissing 6 = .ok (.if_icmp .ge 18, 3) := by decide +kernel
theorem dX2_allMissing_9 : decode cX2_allMissing 9 = .ok (.iload_n 1, 1) := by decide +kernel
theorem dX2_allMissing_10 : decode cX2_allMissing 10 = .ok (.aload_n 0, 1) := by decide +kernel
theorem dX2_allMissing_11 : decode cX2_allMissing 11 = .ok (.getfield 9, 3) := by decide +kernel
theorem dX2_allMissing_14 : decode cX2_allMissing 14 = .ok (.iload_n 2, 1) := by decide +kernel
theorem dX2_allMissing_15 : decode cX2_allMissing 15 = .ok (.iaload, 1) := by decide +kernel
theorem dX2_allMissing_16 : decode cX2_allMissing 16 = .ok (.iadd, 1) := by decide +kernel
theorem dX2_allMissing_17 : decode cX2_allMissing 17 = .ok (.istore_n 1, 1) := by decide +kernel
theorem dX2_allMissing_18 : decode cX2_allMissing 18 = .ok (.iinc 2 1, 3) := by decide +kernel
theorem dX2_allMissing_21 : decode cX2_allMissing 21 = .ok (.goto (-17), 3) := by decide +kernel
theorem dX2_allMissing_24 : decode cX2_allMissing 24 = .ok (.iload_n 1, 1) := by decide +kernel
theorem dX2_allMissing_25 : decode cX2_allMissing 25 = .ok (.ireturn, 1) := by decide +kernel
theorem dX2_missingAtCounts_0 : decode cX2_missingAtCounts 0 = .ok (.iconst 0, 1) := by decide +kernel
theorem dX2_missingAtCounts_1 : decode cX2_missingAtCounts 1 = .ok (.istore_n 2, 1) := by decide +kernel
theorem dX2_missingAtCounts_2 : decode cX2_missingAtCounts 2 = .ok (.iconst 0, 1) := by decide +kernel
theorem dX2_missingAtCounts_3 : decode cX2_missingAtCounts 3 = .ok (.istore_n 3, 1) := by decide +kernel
theorem dX2_missingAtCounts_4 : decode cX2_missingAtCounts 4 = .ok (.iload_n 3, 1) := by decide +kernel
theorem dX2_missingAtCounts_5 : decode cX2_missingAtCounts 5 = .ok (.aload_n 1, 1) := by decide +kernel
theorem dX2_missingAtCounts_6 : decode cX2_missingAtCounts 6 = .ok (.getfield 30, 3) := by decide +kernel
theorem dX2_missingAtCounts_9 : decode cX2_missingAtCounts 9 = .ok (.if_icmp .ge 32, 3) := by decide +kernel
theorem dX2_missingAtCounts_12 : decode cX2_missingAtCounts 12 = .ok (.iload_n 2, 1) := by decide +kernel
theorem dX2_missingAtCounts_13 : decode cX2_missingAtCounts 13 = .ok (.aload_n 1, 1) := by decide +kernel
theorem dX2_missingAtCounts_14 : decode cX2_missingAtCounts 14 = .ok (.getfield 36, 3) := by decide +kernel
theorem dX2_missingAtCounts_17 : decode cX2_missingAtCounts 17 = .ok (.iload_n 3, 1) := by decide +kernel
theorem dX2_missingAtCounts_18 : decode cX2_missingAtCounts 18 = .ok (.iaload, 1) := by decide +kernel
theorem dX2_missingAtCounts_19 : decode cX2_missingAtCounts 19 = .ok (.iconst (-1), 1) := by decide +kernel
theorem dX2_missingAtCounts_20 : decode cX2_missingAtCounts 20 = .ok (.if_icmp .ne 7, 3) := by decide +kernel
theorem dX2_missingAtCounts_23 : decode cX2_missingAtCounts 23 = .ok (.iconst 0, 1) := by decide +kernel
theorem dX2_missingAtCounts_24 : decode cX2_missingAtCounts 24 = .ok (.goto 9, 3) := by decide +kernel
theorem dX2_missingAtCounts_27 : decode cX2_missingAtCounts 27 = .ok (.aload_n 0, 1) := by decide +kernel
theorem dX2_missingAtCounts_28 : decode cX2_missingAtCounts 28 = .ok (.getfield 9, 3) := by decide +kernel
theorem dX2_missingAtCounts_31 : decode cX2_missingAtCounts 31 = .ok (.iload_n 3, 1) := by decide +kernel
theorem dX2_missingAtCounts_32 : decode cX2_missingAtCounts 32 = .ok (.iaload, 1) := by decide +kernel
theorem dX2_missingAtCounts_33 : decode cX2_missingAtCounts 33 = .ok (.iadd, 1) := by decide +kernel
theorem dX2_missingAtCounts_34 : decode cX2_missingAtCounts 34 = .ok (.istore_n 2, 1) := by decide +kernel
theorem dX2_missingAtCounts_35 : decode cX2_missingAtCounts 35 = .ok (.iinc 3 1, 3) := by decide +kernel
theorem dX2_missingAtCounts_38 : decode cX2_missingAtCounts 38 = .ok (.goto (-34), 3) := by decide +kernel
theorem dX2_missingAtCounts_41 : decode cX2_missingAtCounts 41 = .ok (.iload_n 2, 1) := by decide +kernel
theorem dX2_missingAtCounts_42 : decode cX2_missingAtCounts 42 = .ok (.ireturn, 1) := by decide +kernel
theorem dX2_fewestRunners_0 : decode cX2_fewestRunners 0 = .ok (.aload_n 0, 1) := by decide +kernel
theorem dX2_fewestRunners_1 : decode cX2_fewestRunners 1 = .ok (.aload_n 1, 1) := by decide +kernel
theorem dX2_fewestRunners_2 : decode cX2_fewestRunners 2 = .ok (.invokevirtual 39, 3) := by decide +kernel
theorem dX2_fewestRunners_5 : decode cX2_fewestRunners 5 = .ok (.istore_n 3, 1) := by decide +kernel
theorem dX2_fewestRunners_6 : decode cX2_fewestRunners 6 = .ok (.iload_n 3, 1) := by decide +kernel
theorem dX2_fewestRunners_7 : decode cX2_fewestRunners 7 = .ok (.bipush 10, 2) := by decide +kernel
theorem dX2_fewestRunners_9 : decode cX2_fewestRunners 9 = .ok (.if_icmp .le 6, 3) := by decide +kernel
theorem dX2_fewestRunners_12 : decode cX2_fewestRunners 12 = .ok (.bipush (-3), 2) := by decide +kernel
theorem dX2_fewestRunners_14 : decode cX2_fewestRunners 14 = .ok (.ireturn, 1) := by decide +kernel
theorem dX2_fewestRunners_15 : decode cX2_fewestRunners 15 = .ok (.aload_n 1, 1) := by decide +kernel
theorem dX2_fewestRunners_16 : decode cX2_fewestRunners 16 = .ok (.getfield 36, 3) := by decide +kernel
theorem dX2_fewestRunners_19 : decode cX2_fewestRunners 19 = .ok (.iconst 0, 1) := by decide +kernel
theorem dX2_fewestRunners_20 : decode cX2_fewestRunners 20 = .ok (.aload_n 0, 1) := by decide +kernel
theorem dX2_fewestRunners_21 : decode cX2_fewestRunners 21 = .ok (.getfield 15, 3) := by decide +kernel
theorem dX2_fewestRunners_24 : decode cX2_fewestRunners 24 = .ok (.iconst 0, 1) := by decide +kernel
theorem dX2_fewestRunners_25 : decode cX2_fewestRunners 25 = .ok (.iconst 5, 1) := by decide +kernel
theorem dX2_fewestRunners_26 : decode cX2_fewestRunners 26 = .ok (.invokestatic 43, 3) := by decide +kernel
theorem dX2_fewestRunners_29 : decode cX2_fewestRunners 29 = .ok (.aload_n 0, 1) := by decide +kernel
theorem dX2_fewestRunners_30 : decode cX2_fewestRunners 30 = .ok (.aload_n 1, 1) := by decide +kernel
theorem dX2_fewestRunners_31 : decode cX2_fewestRunners 31 = .ok (.aload_n 2, 1) := by decide +kernel
theorem dX2_fewestRunners_32 : decode cX2_fewestRunners 32 = .ok (.iload_n 3, 1) := by decide +kernel
theorem dX2_fewestRunners_33 : decode cX2_fewestRunners 33 = .ok (.invokevirtual 49, 3) := by decide +kernel
theorem dX2_fewestRunners_36 : decode cX2_fewestRunners 36 = .ok (.ifCond .ne 5, 3) := by decide +kernel
theorem dX2_fewestRunners_39 : decode cX2_fewestRunners 39 = .ok (.iconst (-1), 1) := by decide +kernel
theorem dX2_fewestRunners_40 : decode cX2_fewestRunners 40 = .ok (.ireturn, 1) := by decide +kernel
theorem dX2_fewestRunners_41 : decode cX2_fewestRunners 41 = .ok (.iconst 0, 1) := by decide +kernel
theorem dX2_fewestRunners_42 : decode cX2_fewestRunners 42 = .ok (.istore 4, 2) := by decide +kernel
theorem dX2_fewestRunners_44 : decode cX2_fewestRunners 44 = .ok (.iload 4, 2) := by decide +kernel
theorem dX2_fewestRunners_46 : decode cX2_fewestRunners 46 = .ok (.aload_n 1, 1) := by decide +kernel
theorem dX2_fewestRunners_47 : decode cX2_fewestRunners 47 = .ok (.getfield 30, 3) := by decide +kernel
theorem dX2_fewestRunners_50 : decode cX2_fewestRunners 50 = .ok (.if_icmp .ge 23, 3) := by decide +kernel
theorem dX2_fewestRunners_53 : decode cX2_fewestRunners 53 = .ok (.aload_n 2, 1) := by decide +kernel
theorem dX2_fewestRunners_54 : decode cX2_fewestRunners 54 = .ok (.getfield 53, 3) := by decide +kernel
theorem dX2_fewestRunners_57 : decode cX2_fewestRunners 57 = .ok (.iload 4, 2) := by decide +kernel
theorem dX2_fewestRunners_59 : decode cX2_fewestRunners 59 = .ok (.aload_n 2, 1) := by decide +kernel
theorem dX2_fewestRunners_60 : decode cX2_fewestRunners 60 = .ok (.getfield 58, 3) := by decide +kernel
theorem dX2_fewestRunners_63 : decode cX2_fewestRunners 63 = .ok (.iload 4, 2) := by decide +kernel
theorem dX2_fewestRunners_65 : decode cX2_fewestRunners 65 = .ok (.iaload, 1) := by decide +kernel
theorem dX2_fewestRunners_66 : decode cX2_fewestRunners 66 = .ok (.iastore, 1) := by decide +kernel
theorem dX2_fewestRunners_67 : decode cX2_fewestRunners 67 = .ok (.iinc 4 1, 3) := by decide +kernel
theorem dX2_fewestRunners_70 : decode cX2_fewestRunners 70 = .ok (.goto (-26), 3) := by decide +kernel
theorem dX2_fewestRunners_73 : decode cX2_fewestRunners 73 = .ok (.iload_n 3, 1) := by decide +kernel
theorem dX2_fewestRunners_74 : decode cX2_fewestRunners 74 = .ok (.aload_n 2, 1) := by decide +kernel
theorem dX2_fewestRunners_75 : decode cX2_fewestRunners 75 = .ok (.invokevirtual 61, 3) := by decide +kernel
theorem dX2_fewestRunners_78 : decode cX2_fewestRunners 78 = .ok (.isub, 1) := by decide +kernel
theorem dX2_fewestRunners_79 : decode cX2_fewestRunners 79 = .ok (.ireturn, 1) := by decide +kernel
theorem dX2_canBeRight_0 : decode cX2_canBeRight 0 = .ok (.aload_n 2, 1) := by decide +kernel
theorem dX2_canBeRight_1 : decode cX2_canBeRight 1 = .ok (.invokevirtual 65, 3) := by decide +kernel
theorem dX2_canBeRight_4 : decode cX2_canBeRight 4 = .ok (.iconst 0, 1) := by decide +kernel
theorem dX2_canBeRight_5 : decode cX2_canBeRight 5 = .ok (.istore 4, 2) := by decide +kernel
theorem dX2_canBeRight_7 : decode cX2_canBeRight 7 = .ok (.iload 4, 2) := by decide +kernel
theorem dX2_canBeRight_9 : decode cX2_canBeRight 9 = .ok (.aload_n 1, 1) := by decide +kernel
theorem dX2_canBeRight_10 : decode cX2_canBeRight 10 = .ok (.getfield 30, 3) := by decide +kernel
theorem dX2_canBeRight_13 : decode cX2_canBeRight 13 = .ok (.if_icmp .ge 62, 3) := by decide +kernel
theorem dX2_canBeRight_16 : decode cX2_canBeRight 16 = .ok (.aload_n 0, 1) := by decide +kernel
theorem dX2_canBeRight_17 : decode cX2_canBeRight 17 = .ok (.getfield 15, 3) := by decide +kernel
theorem dX2_canBeRight_20 : decode cX2_canBeRight 20 = .ok (.iload 4, 2) := by decide +kernel
theorem dX2_canBeRight_22 : decode cX2_canBeRight 22 = .ok (.iaload, 1) := by decide +kernel
theorem dX2_canBeRight_23 : decode cX2_canBeRight 23 = .ok (.iconst (-1), 1) := by decide +kernel
theorem dX2_canBeRight_24 : decode cX2_canBeRight 24 = .ok (.if_icmp .eq 45, 3) := by decide +kernel
theorem dX2_canBeRight_27 : decode cX2_canBeRight 27 = .ok (.aload_n 2, 1) := by decide +kernel
theorem dX2_canBeRight_28 : decode cX2_canBeRight 28 = .ok (.getfield 53, 3) := by decide +kernel
theorem dX2_canBeRight_31 : decode cX2_canBeRight 31 = .ok (.iload 4, 2) := by decide +kernel
theorem dX2_canBeRight_33 : decode cX2_canBeRight 33 = .ok (.aload_n 1, 1) := by decide +kernel
theorem dX2_canBeRight_34 : decode cX2_canBeRight 34 = .ok (.getfield 68, 3) := by decide +kernel
theorem dX2_canBeRight_37 : decode cX2_canBeRight 37 = .ok (.iload 4, 2) := by decide +kernel
theorem dX2_canBeRight_39 : decode cX2_canBeRight 39 = .ok (.iaload, 1) := by decide +kernel
theorem dX2_canBeRight_40 : decode cX2_canBeRight 40 = .ok (.iastore, 1) := by decide +kernel
theorem dX2_canBeRight_41 : decode cX2_canBeRight 41 = .ok (.aload_n 2, 1) := by decide +kernel
theorem dX2_canBeRight_42 : decode cX2_canBeRight 42 = .ok (.getfield 58, 3) := by decide +kernel
theorem dX2_canBeRight_45 : decode cX2_canBeRight 45 = .ok (.iload 4, 2) := by decide +kernel
theorem dX2_canBeRight_47 : decode cX2_canBeRight 47 = .ok (.aload_n 0, 1) := by decide +kernel
theorem dX2_canBeRight_48 : decode cX2_canBeRight 48 = .ok (.getfield 9, 3) := by decide +kernel
theorem dX2_canBeRight_51 : decode cX2_canBeRight 51 = .ok (.iload 4, 2) := by decide +kernel
theorem dX2_canBeRight_53 : decode cX2_canBeRight 53 = .ok (.iaload, 1) := by decide +kernel
theorem dX2_canBeRight_54 : decode cX2_canBeRight 54 = .ok (.iastore, 1) := by decide +kernel
theorem dX2_canBeRight_55 : decode cX2_canBeRight 55 = .ok (.aload_n 2, 1) := by decide +kernel
theorem dX2_canBeRight_56 : decode cX2_canBeRight 56 = .ok (.getfield 71, 3) := by decide +kernel
theorem dX2_canBeRight_59 : decode cX2_canBeRight 59 = .ok (.iload 4, 2) := by decide +kernel
theorem dX2_canBeRight_61 : decode cX2_canBeRight 61 = .ok (.aload_n 0, 1) := by decide +kernel
theorem dX2_canBeRight_62 : decode cX2_canBeRight 62 = .ok (.aload_n 1, 1) := by decide +kernel
theorem dX2_canBeRight_63 : decode cX2_canBeRight 63 = .ok (.iload 4, 2) := by decide +kernel
theorem dX2_canBeRight_65 : decode cX2_canBeRight 65 = .ok (.invokevirtual 74, 3) := by decide +kernel
theorem dX2_canBeRight_68 : decode cX2_canBeRight 68 = .ok (.iastore, 1) := by decide +kernel
theorem dX2_canBeRight_69 : decode cX2_canBeRight 69 = .ok (.iinc 4 1, 3) := by decide +kernel
theorem dX2_canBeRight_72 : decode cX2_canBeRight 72 = .ok (.goto (-65), 3) := by decide +kernel
theorem dX2_canBeRight_75 : decode cX2_canBeRight 75 = .ok (.aload_n 2, 1) := by decide +kernel
theorem dX2_canBeRight_76 : decode cX2_canBeRight 76 = .ok (.invokevirtual 61, 3) := by decide +kernel
theorem dX2_canBeRight_79 : decode cX2_canBeRight 79 = .ok (.iload_n 3, 1) := by decide +kernel
theorem dX2_canBeRight_80 : decode cX2_canBeRight 80 = .ok (.if_icmp .ne 7, 3) := by decide +kernel
theorem dX2_canBeRight_83 : decode cX2_canBeRight 83 = .ok (.iconst 1, 1) := by decide +kernel
theorem dX2_canBeRight_84 : decode cX2_canBeRight 84 = .ok (.goto 4, 3) := by decide +kernel
theorem dX2_canBeRight_87 : decode cX2_canBeRight 87 = .ok (.iconst 0, 1) := by decide +kernel
theorem dX2_canBeRight_88 : decode cX2_canBeRight 88 = .ok (.ireturn, 1) := by decide +kernel
theorem dX2_waysFrom_0 : decode cX2_waysFrom 0 = .ok (.iconst 0, 1) := by decide +kernel
theorem dX2_waysFrom_1 : decode cX2_waysFrom 1 = .ok (.istore_n 3, 1) := by decide +kernel
theorem dX2_waysFrom_2 : decode cX2_waysFrom 2 = .ok (.iconst 0, 1) := by decide +kernel
theorem dX2_waysFrom_3 : decode cX2_waysFrom 3 = .ok (.istore 4, 2) := by decide +kernel
theorem dX2_waysFrom_5 : decode cX2_waysFrom 5 = .ok (.iload 4, 2) := by decide +kernel
theorem dX2_waysFrom_7 : decode cX2_waysFrom 7 = .ok (.aload_n 1, 1) := by decide +kernel
theorem dX2_waysFrom_8 : decode cX2_waysFrom 8 = .ok (.getfield 30, 3) := by decide +kernel
theorem dX2_waysFrom_11 : decode cX2_waysFrom 11 = .ok (.if_icmp .ge 61, 3) := by decide +kernel
theorem dX2_waysFrom_14 : decode cX2_waysFrom 14 = .ok (.aload_n 0, 1) := by decide +kernel
theorem dX2_waysFrom_15 : decode cX2_waysFrom 15 = .ok (.getfield 15, 3) := by decide +kernel
theorem dX2_waysFrom_18 : decode cX2_waysFrom 18 = .ok (.iload 4, 2) := by decide +kernel
theorem dX2_waysFrom_20 : decode cX2_waysFrom 20 = .ok (.iaload, 1) := by decide +kernel
theorem dX2_waysFrom_21 : decode cX2_waysFrom 21 = .ok (.iconst (-1), 1) := by decide +kernel
theorem dX2_waysFrom_22 : decode cX2_waysFrom 22 = .ok (.if_icmp .eq 44, 3) := by decide +kernel
theorem dX2_waysFrom_25 : decode cX2_waysFrom 25 = .ok (.aload_n 0, 1) := by decide +kernel
theorem dX2_waysFrom_26 : decode cX2_waysFrom 26 = .ok (.iload_n 2, 1) := by decide +kernel
theorem dX2_waysFrom_27 : decode cX2_waysFrom 27 = .ok (.iload 4, 2) := by decide +kernel
theorem dX2_waysFrom_29 : decode cX2_waysFrom 29 = .ok (.invokevirtual 78, 3) := by decide +kernel
theorem dX2_waysFrom_32 : decode cX2_waysFrom 32 = .ok (.ifCond .eq 34, 3) := by decide +kernel
theorem dX2_waysFrom_35 : decode cX2_waysFrom 35 = .ok (.aload_n 0, 1) := by decide +kernel
theorem dX2_waysFrom_36 : decode cX2_waysFrom 36 = .ok (.getfield 15, 3) := by decide +kernel
theorem dX2_waysFrom_39 : decode cX2_waysFrom 39 = .ok (.iload 4, 2) := by decide +kernel
theorem dX2_waysFrom_41 : decode cX2_waysFrom 41 = .ok (.iaload, 1) := by decide +kernel
theorem dX2_waysFrom_42 : decode cX2_waysFrom 42 = .ok (.aload_n 0, 1) := by decide +kernel
theorem dX2_waysFrom_43 : decode cX2_waysFrom 43 = .ok (.getfield 15, 3) := by decide +kernel
theorem dX2_waysFrom_46 : decode cX2_waysFrom 46 = .ok (.iload_n 2, 1) := by decide +kernel
theorem dX2_waysFrom_47 : decode cX2_waysFrom 47 = .ok (.iaload, 1) := by decide +kernel
theorem dX2_waysFrom_48 : decode cX2_waysFrom 48 = .ok (.isub, 1) := by decide +kernel
theorem dX2_waysFrom_49 : decode cX2_waysFrom 49 = .ok (.aload_n 1, 1) := by decide +kernel
theorem dX2_waysFrom_50 : decode cX2_waysFrom 50 = .ok (.iload_n 2, 1) := by decide +kernel
theorem dX2_waysFrom_51 : decode cX2_waysFrom 51 = .ok (.iload 4, 2) := by decide +kernel
theorem dX2_waysFrom_53 : decode cX2_waysFrom 53 = .ok (.invokevirtual 82, 3) := by decide +kernel
theorem dX2_waysFrom_56 : decode cX2_waysFrom 56 = .ok (.if_icmp .lt 10, 3) := by decide +kernel
theorem dX2_waysFrom_59 : decode cX2_waysFrom 59 = .ok (.iload_n 3, 1) := by decide +kernel
theorem dX2_waysFrom_60 : decode cX2_waysFrom 60 = .ok (.iconst 1, 1) := by decide +kernel
theorem dX2_waysFrom_61 : decode cX2_waysFrom 61 = .ok (.iload 4, 2) := by decide +kernel
theorem dX2_waysFrom_63 : decode cX2_waysFrom 63 = .ok (.ishl, 1) := by decide +kernel
theorem dX2_waysFrom_64 : decode cX2_waysFrom 64 = .ok (.ior, 1) := by decide +kernel
theorem dX2_waysFrom_65 : decode cX2_waysFrom 65 = .ok (.istore_n 3, 1) := by decide +kernel
theorem dX2_waysFrom_66 : decode cX2_waysFrom 66 = .ok (.iinc 4 1, 3) := by decide +kernel
theorem dX2_waysFrom_69 : decode cX2_waysFrom 69 = .ok (.goto (-64), 3) := by decide +kernel
theorem dX2_waysFrom_72 : decode cX2_waysFrom 72 = .ok (.iload_n 3, 1) := by decide +kernel
theorem dX2_waysFrom_73 : decode cX2_waysFrom 73 = .ok (.ireturn, 1) := by decide +kernel
theorem dX2_isLater_0 : decode cX2_isLater 0 = .ok (.aload_n 0, 1) := by decide +kernel
theorem dX2_isLater_1 : decode cX2_isLater 1 = .ok (.getfield 15, 3) := by decide +kernel
theorem dX2_isLater_4 : decode cX2_isLater 4 = .ok (.iload_n 2, 1) := by decide +kernel
theorem dX2_isLater_5 : decode cX2_isLater 5 = .ok (.iaload, 1) := by decide +kernel
theorem dX2_isLater_6 : decode cX2_isLater 6 = .ok (.aload_n 0, 1) := by decide +kernel
theorem dX2_isLater_7 : decode cX2_isLater 7 = .ok (.getfield 15, 3) := by decide +kernel
theorem dX2_isLater_10 : decode cX2_isLater 10 = .ok (.iload_n 1, 1) := by decide +kernel
theorem dX2_isLater_11 : decode cX2_isLater 11 = .ok (.iaload, 1) := by decide +kernel
theorem dX2_isLater_12 : decode cX2_isLater 12 = .ok (.if_icmp .gt 23, 3) := by decide +kernel
theorem dX2_isLater_15 : decode cX2_isLater 15 = .ok (.aload_n 0, 1) := by decide +kernel
theorem dX2_isLater_16 : decode cX2_isLater 16 = .ok (.getfield 15, 3) := by decide +kernel
theorem dX2_isLater_19 : decode cX2_isLater 19 = .ok (.iload_n 2, 1) := by decide +kernel
theorem dX2_isLater_20 : decode cX2_isLater 20 = .ok (.iaload, 1) := by decide +kernel
theorem dX2_isLater_21 : decode cX2_isLater 21 = .ok (.aload_n 0, 1) := by decide +kernel
theorem dX2_isLater_22 : decode cX2_isLater 22 = .ok (.getfield 15, 3) := by decide +kernel
theorem dX2_isLater_25 : decode cX2_isLater 25 = .ok (.iload_n 1, 1) := by decide +kernel
theorem dX2_isLater_26 : decode cX2_isLater 26 = .ok (.iaload, 1) := by decide +kernel
theorem dX2_isLater_27 : decode cX2_isLater 27 = .ok (.if_icmp .ne 12, 3) := by decide +kernel
theorem dX2_isLater_30 : decode cX2_isLater 30 = .ok (.iload_n 2, 1) := by decide +kernel
theorem dX2_isLater_31 : decode cX2_isLater 31 = .ok (.iload_n 1, 1) := by decide +kernel
theorem dX2_isLater_32 : decode cX2_isLater 32 = .ok (.if_icmp .le 7, 3) := by decide +kernel
theorem dX2_isLater_35 : decode cX2_isLater 35 = .ok (.iconst 1, 1) := by decide +kernel
theorem dX2_isLater_36 : decode cX2_isLater 36 = .ok (.goto 4, 3) := by decide +kernel
theorem dX2_isLater_39 : decode cX2_isLater 39 = .ok (.iconst 0, 1) := by decide +kernel
theorem dX2_isLater_40 : decode cX2_isLater 40 = .ok (.ireturn, 1) := by decide +kernel
theorem dX2_wrongOrders_0 : decode cX2_wrongOrders 0 = .ok (.aload_n 0, 1) := by decide +kernel
theorem dX2_wrongOrders_1 : decode cX2_wrongOrders 1 = .ok (.aload_n 1, 1) := by decide +kernel
theorem dX2_wrongOrders_2 : decode cX2_wrongOrders 2 = .ok (.invokevirtual 39, 3) := by decide +kernel
theorem dX2_wrongOrders_5 : decode cX2_wrongOrders 5 = .ok (.istore_n 3, 1) := by decide +kernel
theorem dX2_wrongOrders_6 : decode cX2_wrongOrders 6 = .ok (.iload_n 3, 1) := by decide +kernel
theorem dX2_wrongOrders_7 : decode cX2_wrongOrders 7 = .ok (.bipush 10, 2) := by decide +kernel
theorem dX2_wrongOrders_9 : decode cX2_wrongOrders 9 = .ok (.if_icmp .le 6, 3) := by decide +kernel
theorem dX2_wrongOrders_12 : decode cX2_wrongOrders 12 = .ok (.bipush (-3), 2) := by decide +kernel
theorem dX2_wrongOrders_14 : decode cX2_wrongOrders 14 = .ok (.ireturn, 1) := by decide +kernel
theorem dX2_wrongOrders_15 : decode cX2_wrongOrders 15 = .ok (.iconst 0, 1) := by decide +kernel
theorem dX2_wrongOrders_16 : decode cX2_wrongOrders 16 = .ok (.istore 4, 2) := by decide +kernel
theorem dX2_wrongOrders_18 : decode cX2_wrongOrders 18 = .ok (.iconst 1, 1) := by decide +kernel
theorem dX2_wrongOrders_19 : decode cX2_wrongOrders 19 = .ok (.istore 5, 2) := by decide +kernel
theorem dX2_wrongOrders_21 : decode cX2_wrongOrders 21 = .ok (.iconst 0, 1) := by decide +kernel
theorem dX2_wrongOrders_22 : decode cX2_wrongOrders 22 = .ok (.istore 6, 2) := by decide +kernel
theorem dX2_wrongOrders_24 : decode cX2_wrongOrders 24 = .ok (.iload 6, 2) := by decide +kernel
theorem dX2_wrongOrders_26 : decode cX2_wrongOrders 26 = .ok (.aload_n 1, 1) := by decide +kernel
theorem dX2_wrongOrders_27 : decode cX2_wrongOrders 27 = .ok (.getfield 30, 3) := by decide +kernel
theorem dX2_wrongOrders_30 : decode cX2_wrongOrders 30 = .ok (.if_icmp .ge 39, 3) := by decide +kernel
theorem dX2_wrongOrders_33 : decode cX2_wrongOrders 33 = .ok (.aload_n 1, 1) := by decide +kernel
theorem dX2_wrongOrders_34 : decode cX2_wrongOrders 34 = .ok (.getfield 36, 3) := by decide +kernel
theorem dX2_wrongOrders_37 : decode cX2_wrongOrders 37 = .ok (.iload 6, 2) := by decide +kernel
theorem dX2_wrongOrders_39 : decode cX2_wrongOrders 39 = .ok (.iaload, 1) := by decide +kernel
theorem dX2_wrongOrders_40 : decode cX2_wrongOrders 40 = .ok (.iconst (-1), 1) := by decide +kernel
theorem dX2_wrongOrders_41 : decode cX2_wrongOrders 41 = .ok (.if_icmp .eq 22, 3) := by decide +kernel
theorem dX2_wrongOrders_44 : decode cX2_wrongOrders 44 = .ok (.aload_n 0, 1) := by decide +kernel
theorem dX2_wrongOrders_45 : decode cX2_wrongOrders 45 = .ok (.getfield 18, 3) := by decide +kernel
theorem dX2_wrongOrders_48 : decode cX2_wrongOrders 48 = .ok (.iload 4, 2) := by decide +kernel
theorem dX2_wrongOrders_50 : decode cX2_wrongOrders 50 = .ok (.iload 6, 2) := by decide +kernel
theorem dX2_wrongOrders_52 : decode cX2_wrongOrders 52 = .ok (.iastore, 1) := by decide +kernel
theorem dX2_wrongOrders_53 : decode cX2_wrongOrders 53 = .ok (.iinc 4 1, 3) := by decide +kernel
theorem dX2_wrongOrders_56 : decode cX2_wrongOrders 56 = .ok (.iload 5, 2) := by decide +kernel
theorem dX2_wrongOrders_58 : decode cX2_wrongOrders 58 = .ok (.iload 4, 2) := by decide +kernel
theorem dX2_wrongOrders_60 : decode cX2_wrongOrders 60 = .ok (.imul, 1) := by decide +kernel
theorem dX2_wrongOrders_61 : decode cX2_wrongOrders 61 = .ok (.istore 5, 2) := by decide +kernel
theorem dX2_wrongOrders_63 : decode cX2_wrongOrders 63 = .ok (.iinc 6 1, 3) := by decide +kernel
theorem dX2_wrongOrders_66 : decode cX2_wrongOrders 66 = .ok (.goto (-42), 3) := by decide +kernel
theorem dX2_wrongOrders_69 : decode cX2_wrongOrders 69 = .ok (.aload_n 0, 1) := by decide +kernel
theorem dX2_wrongOrders_70 : decode cX2_wrongOrders 70 = .ok (.getfield 15, 3) := by decide +kernel
theorem dX2_wrongOrders_73 : decode cX2_wrongOrders 73 = .ok (.iconst (-1), 1) := by decide +kernel
theorem dX2_wrongOrders_74 : decode cX2_wrongOrders 74 = .ok (.invokestatic 24, 3) := by decide +kernel
theorem dX2_wrongOrders_77 : decode cX2_wrongOrders 77 = .ok (.iconst 0, 1) := by decide +kernel
theorem dX2_wrongOrders_78 : decode cX2_wrongOrders 78 = .ok (.istore 6, 2) := by decide +kernel
theorem dX2_wrongOrders_80 : decode cX2_wrongOrders 80 = .ok (.iconst 0, 1) := by decide +kernel
theorem dX2_wrongOrders_81 : decode cX2_wrongOrders 81 = .ok (.istore 7, 2) := by decide +kernel
theorem dX2_wrongOrders_83 : decode cX2_wrongOrders 83 = .ok (.iload 7, 2) := by decide +kernel
theorem dX2_wrongOrders_85 : decode cX2_wrongOrders 85 = .ok (.iload 5, 2) := by decide +kernel
theorem dX2_wrongOrders_87 : decode cX2_wrongOrders 87 = .ok (.if_icmp .ge 31, 3) := by decide +kernel
theorem dX2_wrongOrders_90 : decode cX2_wrongOrders 90 = .ok (.aload_n 0, 1) := by decide +kernel
theorem dX2_wrongOrders_91 : decode cX2_wrongOrders 91 = .ok (.aload_n 1, 1) := by decide +kernel
theorem dX2_wrongOrders_92 : decode cX2_wrongOrders 92 = .ok (.iload 4, 2) := by decide +kernel
theorem dX2_wrongOrders_94 : decode cX2_wrongOrders 94 = .ok (.iload 7, 2) := by decide +kernel
theorem dX2_wrongOrders_96 : decode cX2_wrongOrders 96 = .ok (.invokevirtual 86, 3) := by decide +kernel
theorem dX2_wrongOrders_99 : decode cX2_wrongOrders 99 = .ok (.aload_n 0, 1) := by decide +kernel
theorem dX2_wrongOrders_100 : decode cX2_wrongOrders 100 = .ok (.aload_n 1, 1) := by decide +kernel
theorem dX2_wrongOrders_101 : decode cX2_wrongOrders 101 = .ok (.aload_n 2, 1) := by decide +kernel
theorem dX2_wrongOrders_102 : decode cX2_wrongOrders 102 = .ok (.iload_n 3, 1) := by decide +kernel
theorem dX2_wrongOrders_103 : decode cX2_wrongOrders 103 = .ok (.invokevirtual 49, 3) := by decide +kernel
theorem dX2_wrongOrders_106 : decode cX2_wrongOrders 106 = .ok (.ifCond .ne 6, 3) := by decide +kernel
theorem dX2_wrongOrders_109 : decode cX2_wrongOrders 109 = .ok (.iinc 6 1, 3) := by decide +kernel
theorem dX2_wrongOrders_112 : decode cX2_wrongOrders 112 = .ok (.iinc 7 1, 3) := by decide +kernel
theorem dX2_wrongOrders_115 : decode cX2_wrongOrders 115 = .ok (.goto (-32), 3) := by decide +kernel
theorem dX2_wrongOrders_118 : decode cX2_wrongOrders 118 = .ok (.iload 6, 2) := by decide +kernel
theorem dX2_wrongOrders_120 : decode cX2_wrongOrders 120 = .ok (.ireturn, 1) := by decide +kernel
theorem dX2_giveMinutes_0 : decode cX2_giveMinutes 0 = .ok (.iconst 0, 1) := by decide +kernel
theorem dX2_giveMinutes_1 : decode cX2_giveMinutes 1 = .ok (.istore 4, 2) := by decide +kernel
theorem dX2_giveMinutes_3 : decode cX2_giveMinutes 3 = .ok (.iload 4, 2) := by decide +kernel
theorem dX2_giveMinutes_5 : decode cX2_giveMinutes 5 = .ok (.iload_n 2, 1) := by decide +kernel
theorem dX2_giveMinutes_6 : decode cX2_giveMinutes 6 = .ok (.if_icmp .ge 28, 3) := by decide +kernel
theorem dX2_giveMinutes_9 : decode cX2_giveMinutes 9 = .ok (.aload_n 0, 1) := by decide +kernel
theorem dX2_giveMinutes_10 : decode cX2_giveMinutes 10 = .ok (.getfield 21, 3) := by decide +kernel
theorem dX2_giveMinutes_13 : decode cX2_giveMinutes 13 = .ok (.iload 4, 2) := by decide +kernel
theorem dX2_giveMinutes_15 : decode cX2_giveMinutes 15 = .ok (.aload_n 1, 1) := by decide +kernel
theorem dX2_giveMinutes_16 : decode cX2_giveMinutes 16 = .ok (.getfield 36, 3) := by decide +kernel
theorem dX2_giveMinutes_19 : decode cX2_giveMinutes 19 = .ok (.aload_n 0, 1) := by decide +kernel
theorem dX2_giveMinutes_20 : decode cX2_giveMinutes 20 = .ok (.getfield 18, 3) := by decide +kernel
theorem dX2_giveMinutes_23 : decode cX2_giveMinutes 23 = .ok (.iload 4, 2) := by decide +kernel
theorem dX2_giveMinutes_25 : decode cX2_giveMinutes 25 = .ok (.iaload, 1) := by decide +kernel
theorem dX2_giveMinutes_26 : decode cX2_giveMinutes 26 = .ok (.iaload, 1) := by decide +kernel
theorem dX2_giveMinutes_27 : decode cX2_giveMinutes 27 = .ok (.iastore, 1) := by decide +kernel
theorem dX2_giveMinutes_28 : decode cX2_giveMinutes 28 = .ok (.iinc 4 1, 3) := by decide +kernel
theorem dX2_giveMinutes_31 : decode cX2_giveMinutes 31 = .ok (.goto (-28), 3) := by decide +kernel
theorem dX2_giveMinutes_34 : decode cX2_giveMinutes 34 = .ok (.iload_n 3, 1) := by decide +kernel
theorem dX2_giveMinutes_35 : decode cX2_giveMinutes 35 = .ok (.istore 4, 2) := by decide +kernel
theorem dX2_giveMinutes_37 : decode cX2_giveMinutes 37 = .ok (.iload_n 2, 1) := by decide +kernel
theorem dX2_giveMinutes_38 : decode cX2_giveMinutes 38 = .ok (.istore 5, 2) := by decide +kernel
theorem dX2_giveMinutes_40 : decode cX2_giveMinutes 40 = .ok (.iload 5, 2) := by decide +kernel
theorem dX2_giveMinutes_42 : decode cX2_giveMinutes 42 = .ok (.ifCond .le 60, 3) := by decide +kernel
theorem dX2_giveMinutes_45 : decode cX2_giveMinutes 45 = .ok (.iload 4, 2) := by decide +kernel
theorem dX2_giveMinutes_47 : decode cX2_giveMinutes 47 = .ok (.iload 5, 2) := by decide +kernel
theorem dX2_giveMinutes_49 : decode cX2_giveMinutes 49 = .ok (.irem, 1) := by decide +kernel
theorem dX2_giveMinutes_50 : decode cX2_giveMinutes 50 = .ok (.istore 6, 2) := by decide +kernel
theorem dX2_giveMinutes_52 : decode cX2_giveMinutes 52 = .ok (.iload 4, 2) := by decide +kernel
theorem dX2_giveMinutes_54 : decode cX2_giveMinutes 54 = .ok (.iload 5, 2) := by decide +kernel
theorem dX2_giveMinutes_56 : decode cX2_giveMinutes 56 = .ok (.idiv, 1) := by decide +kernel
theorem dX2_giveMinutes_57 : decode cX2_giveMinutes 57 = .ok (.istore 4, 2) := by decide +kernel
theorem dX2_giveMinutes_59 : decode cX2_giveMinutes 59 = .ok (.aload_n 0, 1) := by decide +kernel
theorem dX2_giveMinutes_60 : decode cX2_giveMinutes 60 = .ok (.getfield 15, 3) := by decide +kernel
theorem dX2_giveMinutes_63 : decode cX2_giveMinutes 63 = .ok (.aload_n 0, 1) := by decide +kernel
theorem dX2_giveMinutes_64 : decode cX2_giveMinutes 64 = .ok (.getfield 18, 3) := by decide +kernel
theorem dX2_giveMinutes_67 : decode cX2_giveMinutes 67 = .ok (.iload 5, 2) := by decide +kernel
theorem dX2_giveMinutes_69 : decode cX2_giveMinutes 69 = .ok (.iconst 1, 1) := by decide +kernel
theorem dX2_giveMinutes_70 : decode cX2_giveMinutes 70 = .ok (.isub, 1) := by decide +kernel
theorem dX2_giveMinutes_71 : decode cX2_giveMinutes 71 = .ok (.iaload, 1) := by decide +kernel
theorem dX2_giveMinutes_72 : decode cX2_giveMinutes 72 = .ok (.aload_n 0, 1) := by decide +kernel
theorem dX2_giveMinutes_73 : decode cX2_giveMinutes 73 = .ok (.getfield 21, 3) := by decide +kernel
theorem dX2_giveMinutes_76 : decode cX2_giveMinutes 76 = .ok (.iload 6, 2) := by decide +kernel
theorem dX2_giveMinutes_78 : decode cX2_giveMinutes 78 = .ok (.iaload, 1) := by decide +kernel
theorem dX2_giveMinutes_79 : decode cX2_giveMinutes 79 = .ok (.iastore, 1) := by decide +kernel
theorem dX2_giveMinutes_80 : decode cX2_giveMinutes 80 = .ok (.aload_n 0, 1) := by decide +kernel
theorem dX2_giveMinutes_81 : decode cX2_giveMinutes 81 = .ok (.getfield 21, 3) := by decide +kernel
theorem dX2_giveMinutes_84 : decode cX2_giveMinutes 84 = .ok (.iload 6, 2) := by decide +kernel
theorem dX2_giveMinutes_86 : decode cX2_giveMinutes 86 = .ok (.aload_n 0, 1) := by decide +kernel
theorem dX2_giveMinutes_87 : decode cX2_giveMinutes 87 = .ok (.getfield 21, 3) := by decide +kernel
theorem dX2_giveMinutes_90 : decode cX2_giveMinutes 90 = .ok (.iload 5, 2) := by decide +kernel
theorem dX2_giveMinutes_92 : decode cX2_giveMinutes 92 = .ok (.iconst 1, 1) := by decide +kernel
theorem dX2_giveMinutes_93 : decode cX2_giveMinutes 93 = .ok (.isub, 1) := by decide +kernel
theorem dX2_giveMinutes_94 : decode cX2_giveMinutes 94 = .ok (.iaload, 1) := by decide +kernel
theorem dX2_giveMinutes_95 : decode cX2_giveMinutes 95 = .ok (.iastore, 1) := by decide +kernel
theorem dX2_giveMinutes_96 : decode cX2_giveMinutes 96 = .ok (.iinc 5 (-1), 3) := by decide +kernel
theorem dX2_giveMinutes_99 : decode cX2_giveMinutes 99 = .ok (.goto (-59), 3) := by decide +kernel
theorem dX2_giveMinutes_102 : decode cX2_giveMinutes 102 = .ok (.return_, 1) := by decide +kernel
theorem dX3_init_0 : decode cX3_init 0 = .ok (.aload_n 0, 1) := by decide +kernel
theorem dX3_init_1 : decode cX3_init 1 = .ok (.invokespecial 3, 3) := by decide +kernel
theorem dX3_init_4 : decode cX3_init 4 = .ok (.aload_n 0, 1) := by decide +kernel
theorem dX3_init_5 : decode cX3_init 5 = .ok (.iconst 3, 1) := by decide +kernel
theorem dX3_init_6 : decode cX3_init 6 = .ok (.newarray .int, 2) := by decide +kernel
theorem dX3_init_8 : decode cX3_init 8 = .ok (.putfield 9, 3) := by decide +kernel
theorem dX3_init_11 : decode cX3_init 11 = .ok (.aload_n 0, 1) := by decide +kernel
theorem dX3_init_12 : decode cX3_init 12 = .ok (.iconst 3, 1) := by decide +kernel
theorem dX3_init_13 : decode cX3_init 13 = .ok (.newarray .int, 2) := by decide +kernel
theorem dX3_init_15 : decode cX3_init 15 = .ok (.putfield 15, 3) := by decide +kernel
theorem dX3_init_18 : decode cX3_init 18 = .ok (.aload_n 0, 1) := by decide +kernel
theorem dX3_init_19 : decode cX3_init 19 = .ok (.iconst 3, 1) := by decide +kernel
theorem dX3_init_20 : decode cX3_init 20 = .ok (.newarray .int, 2) := by decide +kernel
theorem dX3_init_22 : decode cX3_init 22 = .ok (.putfield 18, 3) := by decide +kernel
theorem dX3_init_25 : decode cX3_init 25 = .ok (.aload_n 0, 1) := by decide +kernel
theorem dX3_init_26 : decode cX3_init 26 = .ok (.iconst 3, 1) := by decide +kernel
theorem dX3_init_27 : decode cX3_init 27 = .ok (.newarray .int, 2) := by decide +kernel
theorem dX3_init_29 : decode cX3_init 29 = .ok (.putfield 21, 3) := by decide +kernel
theorem dX3_init_32 : decode cX3_init 32 = .ok (.aload_n 0, 1) := by decide +kernel
theorem dX3_init_33 : decode cX3_init 33 = .ok (.iconst 3, 1) := by decide +kernel
theorem dX3_init_34 : decode cX3_init 34 = .ok (.newarray .int, 2) := by decide +kernel
theorem dX3_init_36 : decode cX3_init 36 = .ok (.putfield 24, 3) := by decide +kernel
theorem dX3_init_39 : decode cX3_init 39 = .ok (.aload_n 0, 1) := by decide +kernel
theorem dX3_init_40 : decode cX3_init 40 = .ok (.iconst 5, 1) := by decide +kernel
theorem dX3_init_41 : decode cX3_init 41 = .ok (.newarray .int, 2) := by decide +kernel
theorem dX3_init_43 : decode cX3_init 43 = .ok (.putfield 27, 3) := by decide +kernel
theorem dX3_init_46 : decode cX3_init 46 = .ok (.aload_n 0, 1) := by decide +kernel
theorem dX3_init_47 : decode cX3_init 47 = .ok (.iconst 4, 1) := by decide +kernel
theorem dX3_init_48 : decode cX3_init 48 = .ok (.newarray .int, 2) := by decide +kernel
theorem dX3_init_50 : decode cX3_init 50 = .ok (.putfield 30, 3) := by decide +kernel
theorem dX3_init_53 : decode cX3_init 53 = .ok (.aload_n 0, 1) := by decide +kernel
theorem dX3_init_54 : decode cX3_init 54 = .ok (.new 33, 3) := by decide +kernel
theorem dX3_init_57 : decode cX3_init 57 = .ok (.dup, 1) := by decide +kernel
theorem dX3_init_58 : decode cX3_init 58 = .ok (.invokespecial 35, 3) := by decide +kernel
theorem dX3_init_61 : decode cX3_init 61 = .ok (.putfield 36, 3) := by decide +kernel
theorem dX3_init_64 : decode cX3_init 64 = .ok (.return_, 1) := by decide +kernel
theorem dX3_clear_0 : decode cX3_clear 0 = .ok (.aload_n 0, 1) := by decide +kernel
theorem dX3_clear_1 : decode cX3_clear 1 = .ok (.iconst 0, 1) := by decide +kernel
theorem dX3_clear_2 : decode cX3_clear 2 = .ok (.putfield 40, 3) := by decide +kernel
theorem dX3_clear_5 : decode cX3_clear 5 = .ok (.aload_n 0, 1) := by decide +kernel
theorem dX3_clear_6 : decode cX3_clear 6 = .ok (.iconst 0, 1) := by decide +kernel
theorem dX3_clear_7 : decode cX3_clear 7 = .ok (.putfield 44, 3) := by decide +kernel
theorem dX3_clear_10 : decode cX3_clear 10 = .ok (.aload_n 0, 1) := by decide +kernel
theorem dX3_clear_11 : decode cX3_clear 11 = .ok (.getfield 27, 3) := by decide +kernel
theorem dX3_clear_14 : decode cX3_clear 14 = .ok (.iconst 0, 1) := by decide +kernel
theorem dX3_clear_15 : decode cX3_clear 15 = .ok (.invokestatic 47, 3) := by decide +kernel
theorem dX3_clear_18 : decode cX3_clear 18 = .ok (.aload_n 0, 1) := by decide +kernel
theorem dX3_clear_19 : decode cX3_clear 19 = .ok (.getfield 30, 3) := by decide +kernel
theorem dX3_clear_22 : decode cX3_clear 22 = .ok (.iconst 0, 1) := by decide +kernel
theorem dX3_clear_23 : decode cX3_clear 23 = .ok (.invokestatic 47, 3) := by decide +kernel
theorem dX3_clear_26 : decode cX3_clear 26 = .ok (.return_, 1) := by decide +kernel
theorem dX3_copyFrom_0 : decode cX3_copyFrom 0 = .ok (.aload_n 1, 1) := by decide +kernel
theorem dX3_copyFrom_1 : decode cX3_copyFrom 1 = .ok (.getfield 9, 3) := by decide +kernel
theorem dX3_copyFrom_4 : decode cX3_copyFrom 4 = .ok (.iconst 0, 1) := by decide +kernel
theorem dX3_copyFrom_5 : decode cX3_copyFrom 5 = .ok (.aload_n 0, 1) := by decide +kernel
theorem dX3_copyFrom_6 : decode cX3_copyFrom 6 = .ok (.getfield 9, 3) := by decide +kernel
theorem dX3_copyFrom_9 : decode cX3_copyFrom 9 = .ok (.iconst 0, 1) := by decide +kernel
theorem dX3_copyFrom_10 : decode cX3_copyFrom 10 = .ok (.iconst 3, 1) := by decide +kernel
theorem dX3_copyFrom_11 : decode cX3_copyFrom 11 = .ok (.invokestatic 53, 3) := by decide +kernel
theorem dX3_copyFrom_14 : decode cX3_copyFrom 14 = .ok (.aload_n 1, 1) := by decide +kernel
theorem dX3_copyFrom_15 : decode cX3_copyFrom 15 = .ok (.getfield 15, 3) := by decide +kernel
theorem dX3_copyFrom_18 : decode cX3_copyFrom 18 = .ok (.iconst 0, 1) := by decide +kernel
theorem dX3_copyFrom_19 : decode cX3_copyFrom 19 = .ok (.aload_n 0, 1) := by decide +kernel
theorem dX3_copyFrom_20 : decode cX3_copyFrom 20 = .ok (.getfield 15, 3) := by decide +kernel
theorem dX3_copyFrom_23 : decode cX3_copyFrom 23 = .ok (.iconst 0, 1) := by decide +kernel
theorem dX3_copyFrom_24 : decode cX3_copyFrom 24 = .ok (.iconst 3, 1) := by decide +kernel
theorem dX3_copyFrom_25 : decode cX3_copyFrom 25 = .ok (.invokestatic 53, 3) := by decide +kernel
theorem dX3_copyFrom_28 : decode cX3_copyFrom 28 = .ok (.aload_n 1, 1) := by decide +kernel
theorem dX3_copyFrom_29 : decode cX3_copyFrom 29 = .ok (.getfield 18, 3) := by decide +kernel
theorem dX3_copyFrom_32 : decode cX3_copyFrom 32 = .ok (.iconst 0, 1) := by decide +kernel
theorem dX3_copyFrom_33 : decode cX3_copyFrom 33 = .ok (.aload_n 0, 1) := by decide +kernel
theorem dX3_copyFrom_34 : decode cX3_copyFrom 34 = .ok (.getfield 18, 3) := by decide +kernel
theorem dX3_copyFrom_37 : decode cX3_copyFrom 37 = .ok (.iconst 0, 1) := by decide +kernel
theorem dX3_copyFrom_38 : decode cX3_copyFrom 38 = .ok (.iconst 3, 1) := by decide +kernel
theorem dX3_copyFrom_39 : decode cX3_copyFrom 39 = .ok (.invokestatic 53, 3) := by decide +kernel
theorem dX3_copyFrom_42 : decode cX3_copyFrom 42 = .ok (.aload_n 1, 1) := by decide +kernel
theorem dX3_copyFrom_43 : decode cX3_copyFrom 43 = .ok (.getfield 21, 3) := by decide +kernel
theorem dX3_copyFrom_46 : decode cX3_copyFrom 46 = .ok (.iconst 0, 1) := by decide +kernel
theorem dX3_copyFrom_47 : decode cX3_copyFrom 47 = .ok (.aload_n 0, 1) := by decide +kernel
theorem dX3_copyFrom_48 : decode cX3_copyFrom 48 = .ok (.getfield 21, 3) := by decide +kernel
theorem dX3_copyFrom_51 : decode cX3_copyFrom 51 = .ok (.iconst 0, 1) := by decide +kernel
theorem dX3_copyFrom_52 : decode cX3_copyFrom 52 = .ok (.iconst 3, 1) := by decide +kernel
theorem dX3_copyFrom_53 : decode cX3_copyFrom 53 = .ok (.invokestatic 53, 3) := by decide +kernel
theorem dX3_copyFrom_56 : decode cX3_copyFrom 56 = .ok (.aload_n 1, 1) := by decide +kernel
theorem dX3_copyFrom_57 : decode cX3_copyFrom 57 = .ok (.getfield 24, 3) := by decide +kernel
theorem dX3_copyFrom_60 : decode cX3_copyFrom 60 = .ok (.iconst 0, 1) := by decide +kernel
theorem dX3_copyFrom_61 : decode cX3_copyFrom 61 = .ok (.aload_n 0, 1) := by decide +kernel
theorem dX3_copyFrom_62 : decode cX3_copyFrom 62 = .ok (.getfield 24, 3) := by decide +kernel
theorem dX3_copyFrom_65 : decode cX3_copyFrom 65 = .ok (.iconst 0, 1) := by decide +kernel
theorem dX3_copyFrom_66 : decode cX3_copyFrom 66 = .ok (.iconst 3, 1) := by decide +kernel
theorem dX3_copyFrom_67 : decode cX3_copyFrom 67 = .ok (.invokestatic 53, 3) := by decide +kernel
theorem dX3_copyFrom_70 : decode cX3_copyFrom 70 = .ok (.aload_n 1, 1) := by decide +kernel
theorem dX3_copyFrom_71 : decode cX3_copyFrom 71 = .ok (.getfield 27, 3) := by decide +kernel
theorem dX3_copyFrom_74 : decode cX3_copyFrom 74 = .ok (.iconst 0, 1) := by decide +kernel
theorem dX3_copyFrom_75 : decode cX3_copyFrom 75 = .ok (.aload_n 0, 1) := by decide +kernel
theorem dX3_copyFrom_76 : decode cX3_copyFrom 76 = .ok (.getfield 27, 3) := by decide +kernel
theorem dX3_copyFrom_79 : decode cX3_copyFrom 79 = .ok (.iconst 0, 1) := by decide +kernel
theorem dX3_copyFrom_80 : decode cX3_copyFrom 80 = .ok (.iconst 5, 1) := by decide +kernel
theorem dX3_copyFrom_81 : decode cX3_copyFrom 81 = .ok (.invokestatic 53, 3) := by decide +kernel
theorem dX3_copyFrom_84 : decode cX3_copyFrom 84 = .ok (.aload_n 1, 1) := by decide +kernel
theorem dX3_copyFrom_85 : decode cX3_copyFrom 85 = .ok (.getfield 30, 3) := by decide +kernel
theorem dX3_copyFrom_88 : decode cX3_copyFrom 88 = .ok (.iconst 0, 1) := by decide +kernel
theorem dX3_copyFrom_89 : decode cX3_copyFrom 89 = .ok (.aload_n 0, 1) := by decide +kernel
theorem dX3_copyFrom_90 : decode cX3_copyFrom 90 = .ok (.getfield 30, 3) := by decide +kernel
theorem dX3_copyFrom_93 : decode cX3_copyFrom 93 = .ok (.iconst 0, 1) := by decide +kernel
theorem dX3_copyFrom_94 : decode cX3_copyFrom 94 = .ok (.iconst 4, 1) := by decide +kernel
theorem dX3_copyFrom_95 : decode cX3_copyFrom 95 = .ok (.invokestatic 53, 3) := by decide +kernel
theorem dX3_copyFrom_98 : decode cX3_copyFrom 98 = .ok (.aload_n 0, 1) := by decide +kernel
theorem dX3_copyFrom_99 : decode cX3_copyFrom 99 = .ok (.getfield 36, 3) := by decide +kernel
theorem dX3_copyFrom_102 : decode cX3_copyFrom 102 = .ok (.aload_n 1, 1) := by decide +kernel
theorem dX3_copyFrom_103 : decode cX3_copyFrom 103 = .ok (.getfield 36, 3) := by decide +kernel
theorem dX3_copyFrom_106 : decode cX3_copyFrom 106 = .ok (.getfield 59, 3) := by decide +kernel
theorem dX3_copyFrom_109 : decode cX3_copyFrom 109 = .ok (.putfield 59, 3) := by decide +kernel
theorem dX3_copyFrom_112 : decode cX3_copyFrom 112 = .ok (.aload_n 0, 1) := by decide +kernel
theorem dX3_copyFrom_113 : decode cX3_copyFrom 113 = .ok (.aload_n 1, 1) := by decide +kernel
theorem dX3_copyFrom_114 : decode cX3_copyFrom 114 = .ok (.getfield 40, 3) := by decide +kernel
theorem dX3_copyFrom_117 : decode cX3_copyFrom 117 = .ok (.putfield 40, 3) := by decide +kernel
theorem dX3_copyFrom_120 : decode cX3_copyFrom 120 = .ok (.aload_n 0, 1) := by decide +kernel
theorem dX3_copyFrom_121 : decode cX3_copyFrom 121 = .ok (.aload_n 1, 1) := by decide +kernel
theorem dX3_copyFrom_122 : decode cX3_copyFrom 122 = .ok (.getfield 44, 3) := by decide +kernel
theorem dX3_copyFrom_125 : decode cX3_copyFrom 125 = .ok (.putfield 44, 3) := by decide +kernel
theorem dX3_copyFrom_128 : decode cX3_copyFrom 128 = .ok (.return_, 1) := by decide +kernel
theorem dX3_begin_0 : decode cX3_begin 0 = .ok (.aload_n 0, 1) := by decide +kernel
theorem dX3_begin_1 : decode cX3_begin 1 = .ok (.getfield 40, 3) := by decide +kernel
theorem dX3_begin_4 : decode cX3_begin 4 = .ok (.iconst 3, 1) := by decide +kernel
theorem dX3_begin_5 : decode cX3_begin 5 = .ok (.if_icmp .lt 6, 3) := by decide +kernel
theorem dX3_begin_8 : decode cX3_begin 8 = .ok (.bipush (-3), 2) := by decide +kernel
theorem dX3_begin_10 : decode cX3_begin 10 = .ok (.ireturn, 1) := by decide +kernel
theorem dX3_begin_11 : decode cX3_begin 11 = .ok (.aload_n 0, 1) := by decide +kernel
theorem dX3_begin_12 : decode cX3_begin 12 = .ok (.getfield 9, 3) := by decide +kernel
theorem dX3_begin_15 : decode cX3_begin 15 = .ok (.aload_n 0, 1) := by decide +kernel
theorem dX3_begin_16 : decode cX3_begin 16 = .ok (.getfield 40, 3) := by decide +kernel
theorem dX3_begin_19 : decode cX3_begin 19 = .ok (.iload_n 1, 1) := by decide +kernel
theorem dX3_begin_20 : decode cX3_begin 20 = .ok (.iastore, 1) := by decide +kernel
theorem dX3_begin_21 : decode cX3_begin 21 = .ok (.aload_n 0, 1) := by decide +kernel
theorem dX3_begin_22 : decode cX3_begin 22 = .ok (.getfield 15, 3) := by decide +kernel
theorem dX3_begin_25 : decode cX3_begin 25 = .ok (.aload_n 0, 1) := by decide +kernel
theorem dX3_begin_26 : decode cX3_begin 26 = .ok (.getfield 40, 3) := by decide +kernel
theorem dX3_begin_29 : decode cX3_begin 29 = .ok (.iconst 0, 1) := by decide +kernel
theorem dX3_begin_30 : decode cX3_begin 30 = .ok (.iastore, 1) := by decide +kernel
theorem dX3_begin_31 : decode cX3_begin 31 = .ok (.aload_n 0, 1) := by decide +kernel
theorem dX3_begin_32 : decode cX3_begin 32 = .ok (.getfield 18, 3) := by decide +kernel
theorem dX3_begin_35 : decode cX3_begin 35 = .ok (.aload_n 0, 1) := by decide +kernel
theorem dX3_begin_36 : decode cX3_begin 36 = .ok (.getfield 40, 3) := by decide +kernel
theorem dX3_begin_39 : decode cX3_begin 39 = .ok (.iconst 0, 1) := by decide +kernel
theorem dX3_begin_40 : decode cX3_begin 40 = .ok (.iastore, 1) := by decide +kernel
theorem dX3_begin_41 : decode cX3_begin 41 = .ok (.aload_n 0, 1) := by decide +kernel
theorem dX3_begin_42 : decode cX3_begin 42 = .ok (.getfield 21, 3) := by decide +kernel
theorem dX3_begin_45 : decode cX3_begin 45 = .ok (.aload_n 0, 1) := by decide +kernel
theorem dX3_begin_46 : decode cX3_begin 46 = .ok (.getfield 40, 3) := by decide +kernel
theorem dX3_begin_49 : decode cX3_begin 49 = .ok (.iconst 0, 1) := by decide +kernel
theorem dX3_begin_50 : decode cX3_begin 50 = .ok (.iastore, 1) := by decide +kernel
theorem dX3_begin_51 : decode cX3_begin 51 = .ok (.aload_n 0, 1) := by decide +kernel
theorem dX3_begin_52 : decode cX3_begin 52 = .ok (.getfield 24, 3) := by decide +kernel
theorem dX3_begin_55 : decode cX3_begin 55 = .ok (.aload_n 0, 1) := by decide +kernel
theorem dX3_begin_56 : decode cX3_begin 56 = .ok (.getfield 40, 3) := by decide +kernel
theorem dX3_begin_59 : decode cX3_begin 59 = .ok (.iconst 0, 1) := by decide +kernel
theorem dX3_begin_60 : decode cX3_begin 60 = .ok (.iastore, 1) := by decide +kernel
theorem dX3_begin_61 : decode cX3_begin 61 = .ok (.aload_n 0, 1) := by decide +kernel
theorem dX3_begin_62 : decode cX3_begin 62 = .ok (.dup, 1) := by decide +kernel
theorem dX3_begin_63 : decode cX3_begin 63 = .ok (.getfield 40, 3) := by decide +kernel
theorem dX3_begin_66 : decode cX3_begin 66 = .ok (.iconst 1, 1) := by decide +kernel
theorem dX3_begin_67 : decode cX3_begin 67 = .ok (.iadd, 1) := by decide +kernel
theorem dX3_begin_68 : decode cX3_begin 68 = .ok (.putfield 40, 3) := by decide +kernel
theorem dX3_begin_71 : decode cX3_begin 71 = .ok (.aload_n 0, 1) := by decide +kernel
theorem dX3_begin_72 : decode cX3_begin 72 = .ok (.getfield 40, 3) := by decide +kernel
theorem dX3_begin_75 : decode cX3_begin 75 = .ok (.iconst 1, 1) := by decide +kernel
theorem dX3_begin_76 : decode cX3_begin 76 = .ok (.isub, 1) := by decide +kernel
theorem dX3_begin_77 : decode cX3_begin 77 = .ok (.ireturn, 1) := by decide +kernel
theorem dX3_dig_0 : decode cX3_dig 0 = .ok (.aload_n 0, 1) := by decide +kernel
theorem dX3_dig_1 : decode cX3_dig 1 = .ok (.getfield 18, 3) := by decide +kernel
theorem dX3_dig_4 : decode cX3_dig 4 = .ok (.iload_n 2, 1) := by decide +kernel
theorem dX3_dig_5 : decode cX3_dig 5 = .ok (.iaload, 1) := by decide +kernel
theorem dX3_dig_6 : decode cX3_dig 6 = .ok (.aload_n 1, 1) := by decide +kernel
theorem dX3_dig_7 : decode cX3_dig 7 = .ok (.aload_n 0, 1) := by decide +kernel
theorem dX3_dig_8 : decode cX3_dig 8 = .ok (.getfield 15, 3) := by decide +kernel
theorem dX3_dig_11 : decode cX3_dig 11 = .ok (.iload_n 2, 1) := by decide +kernel
theorem dX3_dig_12 : decode cX3_dig 12 = .ok (.iaload, 1) := by decide +kernel
theorem dX3_dig_13 : decode cX3_dig 13 = .ok (.iload_n 3, 1) := by decide +kernel
theorem dX3_dig_14 : decode cX3_dig 14 = .ok (.invokevirtual 63, 3) := by decide +kernel
theorem dX3_dig_17 : decode cX3_dig 17 = .ok (.iadd, 1) := by decide +kernel
theorem dX3_dig_18 : decode cX3_dig 18 = .ok (.istore 4, 2) := by decide +kernel
theorem dX3_dig_20 : decode cX3_dig 20 = .ok (.aload_n 0, 1) := by decide +kernel
theorem dX3_dig_21 : decode cX3_dig 21 = .ok (.getfield 18, 3) := by decide +kernel
theorem dX3_dig_24 : decode cX3_dig 24 = .ok (.iload_n 2, 1) := by decide +kernel
theorem dX3_dig_25 : decode cX3_dig 25 = .ok (.iload 4, 2) := by decide +kernel
theorem dX3_dig_27 : decode cX3_dig 27 = .ok (.bipush 10, 2) := by decide +kernel
theorem dX3_dig_29 : decode cX3_dig 29 = .ok (.irem, 1) := by decide +kernel
theorem dX3_dig_30 : decode cX3_dig 30 = .ok (.iastore, 1) := by decide +kernel
theorem dX3_dig_31 : decode cX3_dig 31 = .ok (.aload_n 0, 1) := by decide +kernel
theorem dX3_dig_32 : decode cX3_dig 32 = .ok (.aload_n 1, 1) := by decide +kernel
theorem dX3_dig_33 : decode cX3_dig 33 = .ok (.iload 4, 2) := by decide +kernel
theorem dX3_dig_35 : decode cX3_dig 35 = .ok (.bipush 10, 2) := by decide +kernel
theorem dX3_dig_37 : decode cX3_dig 37 = .ok (.idiv, 1) := by decide +kernel
theorem dX3_dig_38 : decode cX3_dig 38 = .ok (.invokevirtual 69, 3) := by decide +kernel
theorem dX3_dig_41 : decode cX3_dig 41 = .ok (.istore 5, 2) := by decide +kernel
theorem dX3_dig_43 : decode cX3_dig 43 = .ok (.aload_n 0, 1) := by decide +kernel
theorem dX3_dig_44 : decode cX3_dig 44 = .ok (.dup, 1) := by decide +kernel
theorem dX3_dig_45 : decode cX3_dig 45 = .ok (.getfield 44, 3) := by decide +kernel
theorem dX3_dig_48 : decode cX3_dig 48 = .ok (.iload 5, 2) := by decide +kernel
theorem dX3_dig_50 : decode cX3_dig 50 = .ok (.aload_n 1, 1) := by decide +kernel
theorem dX3_dig_51 : decode cX3_dig 51 = .ok (.bipush 8, 2) := by decide +kernel
theorem dX3_dig_53 : decode cX3_dig 53 = .ok (.invokevirtual 73, 3) := by decide +kernel
theorem dX3_dig_56 : decode cX3_dig 56 = .ok (.imul, 1) := by decide +kernel
theorem dX3_dig_57 : decode cX3_dig 57 = .ok (.iadd, 1) := by decide +kernel
theorem dX3_dig_58 : decode cX3_dig 58 = .ok (.putfield 44, 3) := by decide +kernel
theorem dX3_dig_61 : decode cX3_dig 61 = .ok (.aload_n 0, 1) := by decide +kernel
theorem dX3_dig_62 : decode cX3_dig 62 = .ok (.getfield 27, 3) := by decide +kernel
theorem dX3_dig_65 : decode cX3_dig 65 = .ok (.aload_n 0, 1) := by decide +kernel
theorem dX3_dig_66 : decode cX3_dig 66 = .ok (.getfield 9, 3) := by decide +kernel
theorem dX3_dig_69 : decode cX3_dig 69 = .ok (.iload_n 2, 1) := by decide +kernel
theorem dX3_dig_70 : decode cX3_dig 70 = .ok (.iaload, 1) := by decide +kernel
theorem dX3_dig_71 : decode cX3_dig 71 = .ok (.dup2, 1) := by decide +kernel
theorem dX3_dig_72 : decode cX3_dig 72 = .ok (.iaload, 1) := by decide +kernel
theorem dX3_dig_73 : decode cX3_dig 73 = .ok (.iload 5, 2) := by decide +kernel
theorem dX3_dig_75 : decode cX3_dig 75 = .ok (.aload_n 1, 1) := by decide +kernel
theorem dX3_dig_76 : decode cX3_dig 76 = .ok (.iconst 5, 1) := by decide +kernel
theorem dX3_dig_77 : decode cX3_dig 77 = .ok (.invokevirtual 73, 3) := by decide +kernel
theorem dX3_dig_80 : decode cX3_dig 80 = .ok (.imul, 1) := by decide +kernel
theorem dX3_dig_81 : decode cX3_dig 81 = .ok (.iadd, 1) := by decide +kernel
theorem dX3_dig_82 : decode cX3_dig 82 = .ok (.iastore, 1) := by decide +kernel
theorem dX3_dig_83 : decode cX3_dig 83 = .ok (.aload_n 0, 1) := by decide +kernel
theorem dX3_dig_84 : decode cX3_dig 84 = .ok (.getfield 21, 3) := by decide +kernel
theorem dX3_dig_87 : decode cX3_dig 87 = .ok (.iload_n 2, 1) := by decide +kernel
theorem dX3_dig_88 : decode cX3_dig 88 = .ok (.dup2, 1) := by decide +kernel
theorem dX3_dig_89 : decode cX3_dig 89 = .ok (.iaload, 1) := by decide +kernel
theorem dX3_dig_90 : decode cX3_dig 90 = .ok (.iconst 1, 1) := by decide +kernel
theorem dX3_dig_91 : decode cX3_dig 91 = .ok (.iadd, 1) := by decide +kernel
theorem dX3_dig_92 : decode cX3_dig 92 = .ok (.iastore, 1) := by decide +kernel
theorem dX3_dig_93 : decode cX3_dig 93 = .ok (.aload_n 1, 1) := by decide +kernel
theorem dX3_dig_94 : decode cX3_dig 94 = .ok (.bipush 11, 2) := by decide +kernel
theorem dX3_dig_96 : decode cX3_dig 96 = .ok (.invokevirtual 73, 3) := by decide +kernel
theorem dX3_dig_99 : decode cX3_dig 99 = .ok (.istore 6, 2) := by decide +kernel
theorem dX3_dig_101 : decode cX3_dig 101 = .ok (.iload 6, 2) := by decide +kernel
theorem dX3_dig_103 : decode cX3_dig 103 = .ok (.ifCond .le 30, 3) := by decide +kernel
theorem dX3_dig_106 : decode cX3_dig 106 = .ok (.aload_n 0, 1) := by decide +kernel
theorem dX3_dig_107 : decode cX3_dig 107 = .ok (.getfield 36, 3) := by decide +kernel
theorem dX3_dig_110 : decode cX3_dig 110 = .ok (.bipush 100, 2) := by decide +kernel
theorem dX3_dig_112 : decode cX3_dig 112 = .ok (.invokevirtual 77, 3) := by decide +kernel
theorem dX3_dig_115 : decode cX3_dig 115 = .ok (.iload 6, 2) := by decide +kernel
theorem dX3_dig_117 : decode cX3_dig 117 = .ok (.if_icmp .ge 16, 3) := by decide +kernel
theorem dX3_dig_120 : decode cX3_dig 120 = .ok (.aload_n 0, 1) := by decide +kernel
theorem dX3_dig_121 : decode cX3_dig 121 = .ok (.getfield 24, 3) := by decide +kernel
theorem dX3_dig_124 : decode cX3_dig 124 = .ok (.iload_n 2, 1) := by decide +kernel
theorem dX3_dig_125 : decode cX3_dig 125 = .ok (.dup2, 1) := by decide +kernel
theorem dX3_dig_126 : decode cX3_dig 126 = .ok (.iaload, 1) := by decide +kernel
theorem dX3_dig_127 : decode cX3_dig 127 = .ok (.iconst 1, 1) := by decide +kernel
theorem dX3_dig_128 : decode cX3_dig 128 = .ok (.iadd, 1) := by decide +kernel
theorem dX3_dig_129 : decode cX3_dig 129 = .ok (.iastore, 1) := by decide +kernel
theorem dX3_dig_130 : decode cX3_dig 130 = .ok (.goto 14, 3) := by decide +kernel
theorem dX3_dig_133 : decode cX3_dig 133 = .ok (.aload_n 0, 1) := by decide +kernel
theorem dX3_dig_134 : decode cX3_dig 134 = .ok (.getfield 15, 3) := by decide +kernel
theorem dX3_dig_137 : decode cX3_dig 137 = .ok (.iload_n 2, 1) := by decide +kernel
theorem dX3_dig_138 : decode cX3_dig 138 = .ok (.dup2, 1) := by decide +kernel
theorem dX3_dig_139 : decode cX3_dig 139 = .ok (.iaload, 1) := by decide +kernel
theorem dX3_dig_140 : decode cX3_dig 140 = .ok (.iload 5, 2) := by decide +kernel
theorem dX3_dig_142 : decode cX3_dig 142 = .ok (.iadd, 1) := by decide +kernel
theorem dX3_dig_143 : decode cX3_dig 143 = .ok (.iastore, 1) := by decide +kernel
theorem dX3_dig_144 : decode cX3_dig 144 = .ok (.aload_n 0, 1) := by decide +kernel
theorem dX3_dig_145 : decode cX3_dig 145 = .ok (.getfield 15, 3) := by decide +kernel
theorem dX3_dig_148 : decode cX3_dig 148 = .ok (.iload_n 2, 1) := by decide +kernel
theorem dX3_dig_149 : decode cX3_dig 149 = .ok (.iaload, 1) := by decide +kernel
theorem dX3_dig_150 : decode cX3_dig 150 = .ok (.ireturn, 1) := by decide +kernel
theorem dX3_boarded_0 : decode cX3_boarded 0 = .ok (.aload_n 1, 1) := by decide +kernel
theorem dX3_boarded_1 : decode cX3_boarded 1 = .ok (.bipush 8, 2) := by decide +kernel
theorem dX3_boarded_3 : decode cX3_boarded 3 = .ok (.invokevirtual 73, 3) := by decide +kernel
theorem dX3_boarded_6 : decode cX3_boarded 6 = .ok (.istore_n 3, 1) := by decide +kernel
theorem dX3_boarded_7 : decode cX3_boarded 7 = .ok (.iload_n 3, 1) := by decide +kernel
theorem dX3_boarded_8 : decode cX3_boarded 8 = .ok (.ifCond .le 17, 3) := by decide +kernel
theorem dX3_boarded_11 : decode cX3_boarded 11 = .ok (.iload_n 2, 1) := by decide +kernel
theorem dX3_boarded_12 : decode cX3_boarded 12 = .ok (.aload_n 0, 1) := by decide +kernel
theorem dX3_boarded_13 : decode cX3_boarded 13 = .ok (.aload_n 1, 1) := by decide +kernel
theorem dX3_boarded_14 : decode cX3_boarded 14 = .ok (.invokevirtual 80, 3) := by decide +kernel
theorem dX3_boarded_17 : decode cX3_boarded 17 = .ok (.iload_n 3, 1) := by decide +kernel
theorem dX3_boarded_18 : decode cX3_boarded 18 = .ok (.idiv, 1) := by decide +kernel
theorem dX3_boarded_19 : decode cX3_boarded 19 = .ok (.invokestatic 84, 3) := by decide +kernel
theorem dX3_boarded_22 : decode cX3_boarded 22 = .ok (.goto 4, 3) := by decide +kernel
theorem dX3_boarded_25 : decode cX3_boarded 25 = .ok (.iload_n 2, 1) := by decide +kernel
theorem dX3_boarded_26 : decode cX3_boarded 26 = .ok (.ireturn, 1) := by decide +kernel
theorem dX3_boardsLeft_0 : decode cX3_boardsLeft 0 = .ok (.aload_n 1, 1) := by decide +kernel
theorem dX3_boardsLeft_1 : decode cX3_boardsLeft 1 = .ok (.invokevirtual 89, 3) := by decide +kernel
theorem dX3_boardsLeft_4 : decode cX3_boardsLeft 4 = .ok (.aload_n 0, 1) := by decide +kernel
theorem dX3_boardsLeft_5 : decode cX3_boardsLeft 5 = .ok (.getfield 44, 3) := by decide +kernel
theorem dX3_boardsLeft_8 : decode cX3_boardsLeft 8 = .ok (.isub, 1) := by decide +kernel
theorem dX3_boardsLeft_9 : decode cX3_boardsLeft 9 = .ok (.ireturn, 1) := by decide +kernel
theorem dX3_ofTunnel_0 : decode cX3_ofTunnel 0 = .ok (.iload_n 3, 1) := by decide +kernel
theorem dX3_ofTunnel_1 : decode cX3_ofTunnel 1 = .ok (.tableswitch 85 0 5 #[39, 46, 53, 60, 67, 74], 39) := by decide +kernel
theorem dX3_ofTunnel_40 : decode cX3_ofTunnel 40 = .ok (.aload_n 0, 1) := by decide +kernel
theorem dX3_ofTunnel_41 : decode cX3_ofTunnel 41 = .ok (.getfield 9, 3) := by decide +kernel
theorem dX3_ofTunnel_44 : decode cX3_ofTunnel 44 = .ok (.iload_n 2, 1) := by decide +kernel
theorem dX3_ofTunnel_45 : decode cX3_ofTunnel 45 = .ok (.iaload, 1) := by decide +kernel
theorem dX3_ofTunnel_46 : decode cX3_ofTunnel 46 = .ok (.ireturn, 1) := by decide +kernel
theorem dX3_ofTunnel_47 : decode cX3_ofTunnel 47 = .ok (.aload_n 0, 1) := by decide +kernel
theorem dX3_ofTunnel_48 : decode cX3_ofTunnel 48 = .ok (.getfield 15, 3) := by decide +kernel
theorem dX3_ofTunnel_51 : decode cX3_ofTunnel 51 = .ok (.iload_n 2, 1) := by decide +kernel
theorem dX3_ofTunnel_52 : decode cX3_ofTunnel 52 = .ok (.iaload, 1) := by decide +kernel
theorem dX3_ofTunnel_53 : decode cX3_ofTunnel 53 = .ok (.ireturn, 1) := by decide +kernel
theorem dX3_ofTunnel_54 : decode cX3_ofTunnel 54 = .ok (.aload_n 0, 1) := by decide +kernel
theorem dX3_ofTunnel_55 : decode cX3_ofTunnel 55 = .ok (.getfield 18, 3) := by decide +kernel
theorem dX3_ofTunnel_58 : decode cX3_ofTunnel 58 = .ok (.iload_n 2, 1) := by decide +kernel
theorem dX3_ofTunnel_59 : decode cX3_ofTunnel 59 = .ok (.iaload, 1) := by decide +kernel
theorem dX3_ofTunnel_60 : decode cX3_ofTunnel 60 = .ok (.ireturn, 1) := by decide +kernel
theorem dX3_ofTunnel_61 : decode cX3_ofTunnel 61 = .ok (.aload_n 0, 1) := by decide +kernel
theorem dX3_ofTunnel_62 : decode cX3_ofTunnel 62 = .ok (.getfield 21, 3) := by decide +kernel
theorem dX3_ofTunnel_65 : decode cX3_ofTunnel 65 = .ok (.iload_n 2, 1) := by decide +kernel
theorem dX3_ofTunnel_66 : decode cX3_ofTunnel 66 = .ok (.iaload, 1) := by decide +kernel
theorem dX3_ofTunnel_67 : decode cX3_ofTunnel 67 = .ok (.ireturn, 1) := by decide +kernel
theorem dX3_ofTunnel_68 : decode cX3_ofTunnel 68 = .ok (.aload_n 0, 1) := by decide +kernel
theorem dX3_ofTunnel_69 : decode cX3_ofTunnel 69 = .ok (.getfield 24, 3) := by decide +kernel
theorem dX3_ofTunnel_72 : decode cX3_ofTunnel 72 = .ok (.iload_n 2, 1) := by decide +kernel
theorem dX3_ofTunnel_73 : decode cX3_ofTunnel 73 = .ok (.iaload, 1) := by decide +kernel
theorem dX3_ofTunnel_74 : decode cX3_ofTunnel 74 = .ok (.ireturn, 1) := by decide +kernel
theorem dX3_ofTunnel_75 : decode cX3_ofTunnel 75 = .ok (.aload_n 1, 1) := by decide +kernel
theorem dX3_ofTunnel_76 : decode cX3_ofTunnel 76 = .ok (.aload_n 0, 1) := by decide +kernel
theorem dX3_ofTunnel_77 : decode cX3_ofTunnel 77 = .ok (.getfield 15, 3) := by decide +kernel
theorem dX3_ofTunnel_80 : decode cX3_ofTunnel 80 = .ok (.iload_n 2, 1) := by decide +kernel
theorem dX3_ofTunnel_81 : decode cX3_ofTunnel 81 = .ok (.iaload, 1) := by decide +kernel
theorem dX3_ofTunnel_82 : decode cX3_ofTunnel 82 = .ok (.invokevirtual 93, 3) := by decide +kernel
theorem dX3_ofTunnel_85 : decode cX3_ofTunnel 85 = .ok (.ireturn, 1) := by decide +kernel
theorem dX3_ofTunnel_86 : decode cX3_ofTunnel 86 = .ok (.bipush (-2), 2) := by decide +kernel
theorem dX3_ofTunnel_88 : decode cX3_ofTunnel 88 = .ok (.ireturn, 1) := by decide +kernel
theorem dX3_allFeet_0 : decode cX3_allFeet 0 = .ok (.iconst 0, 1) := by decide +kernel
theorem dX3_allFeet_1 : decode cX3_allFeet 1 = .ok (.istore_n 1, 1) := by decide +kernel
theorem dX3_allFeet_2 : decode cX3_allFeet 2 = .ok (.iconst 0, 1) := by decide +kernel
theorem dX3_allFeet_3 : decode cX3_allFeet 3 = .ok (.istore_n 2, 1) := by decide +kernel
theorem dX3_allFeet_4 : decode cX3_allFeet 4 = .ok (.iload_n 2, 1) := by decide +kernel
theorem dX3_allFeet_5 : decode cX3_allFeet 5 = .ok (.aload_n 0, 1) := by decide +kernel
theorem dX3_allFeet_6 : decode cX3_allFeet 6 = .ok (.getfield 40, 3) := by decide +kernel
theorem dX3_allFeet_9 : decode cX3_allFeet 9 = .ok (.if_icmp .ge 18, 3) := by decide +kernel
theorem dX3_allFeet_12 : decode cX3_allFeet 12 = .ok (.iload_n 1, 1) := by decide +kernel
theorem dX3_allFeet_13 : decode cX3_allFeet 13 = .ok (.aload_n 0, 1) := by decide +kernel
theorem dX3_allFeet_14 : decode cX3_allFeet 14 = .ok (.getfield 15, 3) := by decide +kernel
theorem dX3_allFeet_17 : decode cX3_allFeet 17 = .ok (.iload_n 2, 1) := by decide +kernel
theorem dX3_allFeet_18 : decode cX3_allFeet 18 = .ok (.iaload, 1) := by decide +kernel
theorem dX3_allFeet_19 : decode cX3_allFeet 19 = .ok (.iadd, 1) := by decide +kernel
theorem dX3_allFeet_20 : decode cX3_allFeet 20 = .ok (.istore_n 1, 1) := by decide +kernel
theorem dX3_allFeet_21 : decode cX3_allFeet 21 = .ok (.iinc 2 1, 3) := by decide +kernel
theorem dX3_allFeet_24 : decode cX3_allFeet 24 = .ok (.goto (-20), 3) := by decide +kernel
theorem dX3_allFeet_27 : decode cX3_allFeet 27 = .ok (.iload_n 1, 1) := by decide +kernel
theorem dX3_allFeet_28 : decode cX3_allFeet 28 = .ok (.ireturn, 1) := by decide +kernel
theorem dX3_walkOut_0 : decode cX3_walkOut 0 = .ok (.aload_n 1, 1) := by decide +kernel
theorem dX3_walkOut_1 : decode cX3_walkOut 1 = .ok (.iload_n 2, 1) := by decide +kernel
theorem dX3_walkOut_2 : decode cX3_walkOut 2 = .ok (.iload_n 3, 1) := by decide +kernel
theorem dX3_walkOut_3 : decode cX3_walkOut 3 = .ok (.invokevirtual 96, 3) := by decide +kernel
theorem dX3_walkOut_6 : decode cX3_walkOut 6 = .ok (.ifCond .eq 25, 3) := by decide +kernel
theorem dX3_walkOut_9 : decode cX3_walkOut 9 = .ok (.aload_n 0, 1) := by decide +kernel
theorem dX3_walkOut_10 : decode cX3_walkOut 10 = .ok (.getfield 27, 3) := by decide +kernel
theorem dX3_walkOut_13 : decode cX3_walkOut 13 = .ok (.iload_n 2, 1) := by decide +kernel
theorem dX3_walkOut_14 : decode cX3_walkOut 14 = .ok (.iaload, 1) := by decide +kernel
theorem dX3_walkOut_15 : decode cX3_walkOut 15 = .ok (.iload 4, 2) := by decide +kernel
theorem dX3_walkOut_17 : decode cX3_walkOut 17 = .ok (.if_icmp .lt 14, 3) := by decide +kernel
theorem dX3_walkOut_20 : decode cX3_walkOut 20 = .ok (.aload_n 0, 1) := by decide +kernel
theorem dX3_walkOut_21 : decode cX3_walkOut 21 = .ok (.aload_n 1, 1) := by decide +kernel
theorem dX3_walkOut_22 : decode cX3_walkOut 22 = .ok (.iload_n 3, 1) := by decide +kernel
theorem dX3_walkOut_23 : decode cX3_walkOut 23 = .ok (.invokevirtual 100, 3) := by decide +kernel
theorem dX3_walkOut_26 : decode cX3_walkOut 26 = .ok (.iload 4, 2) := by decide +kernel
theorem dX3_walkOut_28 : decode cX3_walkOut 28 = .ok (.if_icmp .ge 6, 3) := by decide +kernel
theorem dX3_walkOut_31 : decode cX3_walkOut 31 = .ok (.bipush (-4), 2) := by decide +kernel
theorem dX3_walkOut_33 : decode cX3_walkOut 33 = .ok (.ireturn, 1) := by decide +kernel
theorem dX3_walkOut_34 : decode cX3_walkOut 34 = .ok (.aload_n 0, 1) := by decide +kernel
theorem dX3_walkOut_35 : decode cX3_walkOut 35 = .ok (.getfield 27, 3) := by decide +kernel
theorem dX3_walkOut_38 : decode cX3_walkOut 38 = .ok (.iload_n 2, 1) := by decide +kernel
theorem dX3_walkOut_39 : decode cX3_walkOut 39 = .ok (.dup2, 1) := by decide +kernel
theorem dX3_walkOut_40 : decode cX3_walkOut 40 = .ok (.iaload, 1) := by decide +kernel
theorem dX3_walkOut_41 : decode cX3_walkOut 41 = .ok (.iload 4, 2) := by decide +kernel
theorem dX3_walkOut_43 : decode cX3_walkOut 43 = .ok (.isub, 1) := by decide +kernel
theorem dX3_walkOut_44 : decode cX3_walkOut 44 = .ok (.iastore, 1) := by decide +kernel
theorem dX3_walkOut_45 : decode cX3_walkOut 45 = .ok (.aload_n 0, 1) := by decide +kernel
theorem dX3_walkOut_46 : decode cX3_walkOut 46 = .ok (.getfield 30, 3) := by decide +kernel
theorem dX3_walkOut_49 : decode cX3_walkOut 49 = .ok (.iload_n 3, 1) := by decide +kernel
theorem dX3_walkOut_50 : decode cX3_walkOut 50 = .ok (.dup2, 1) := by decide +kernel
theorem dX3_walkOut_51 : decode cX3_walkOut 51 = .ok (.iaload, 1) := by decide +kernel
theorem dX3_walkOut_52 : decode cX3_walkOut 52 = .ok (.iload 4, 2) := by decide +kernel
theorem dX3_walkOut_54 : decode cX3_walkOut 54 = .ok (.iadd, 1) := by decide +kernel
theorem dX3_walkOut_55 : decode cX3_walkOut 55 = .ok (.iastore, 1) := by decide +kernel
theorem dX3_walkOut_56 : decode cX3_walkOut 56 = .ok (.aload_n 0, 1) := by decide +kernel
theorem dX3_walkOut_57 : decode cX3_walkOut 57 = .ok (.getfield 27, 3) := by decide +kernel
theorem dX3_walkOut_60 : decode cX3_walkOut 60 = .ok (.iload_n 2, 1) := by decide +kernel
theorem dX3_walkOut_61 : decode cX3_walkOut 61 = .ok (.iaload, 1) := by decide +kernel
theorem dX3_walkOut_62 : decode cX3_walkOut 62 = .ok (.ireturn, 1) := by decide +kernel
theorem dX3_roomLeft_0 : decode cX3_roomLeft 0 = .ok (.aload_n 1, 1) := by decide +kernel
theorem dX3_roomLeft_1 : decode cX3_roomLeft 1 = .ok (.getfield 103, 3) := by decide +kernel
theorem dX3_roomLeft_4 : decode cX3_roomLeft 4 = .ok (.iload_n 2, 1) := by decide +kernel
theorem dX3_roomLeft_5 : decode cX3_roomLeft 5 = .ok (.iaload, 1) := by decide +kernel
theorem dX3_roomLeft_6 : decode cX3_roomLeft 6 = .ok (.aload_n 0, 1) := by decide +kernel
theorem dX3_roomLeft_7 : decode cX3_roomLeft 7 = .ok (.getfield 30, 3) := by decide +kernel
theorem dX3_roomLeft_10 : decode cX3_roomLeft 10 = .ok (.iload_n 2, 1) := by decide +kernel
theorem dX3_roomLeft_11 : decode cX3_roomLeft 11 = .ok (.iaload, 1) := by decide +kernel
theorem dX3_roomLeft_12 : decode cX3_roomLeft 12 = .ok (.isub, 1) := by decide +kernel
theorem dX3_roomLeft_13 : decode cX3_roomLeft 13 = .ok (.ireturn, 1) := by decide +kernel
theorem dX3_mostIn_0 : decode cX3_mostIn 0 = .ok (.aload_n 2, 1) := by decide +kernel
theorem dX3_mostIn_1 : decode cX3_mostIn 1 = .ok (.invokevirtual 106, 3) := by decide +kernel
theorem dX3_mostIn_4 : decode cX3_mostIn 4 = .ok (.iconst 0, 1) := by decide +kernel
theorem dX3_mostIn_5 : decode cX3_mostIn 5 = .ok (.istore 4, 2) := by decide +kernel
theorem dX3_mostIn_7 : decode cX3_mostIn 7 = .ok (.iload 4, 2) := by decide +kernel
theorem dX3_mostIn_9 : decode cX3_mostIn 9 = .ok (.aload_n 1, 1) := by decide +kernel
theorem dX3_mostIn_10 : decode cX3_mostIn 10 = .ok (.getfield 111, 3) := by decide +kernel
theorem dX3_mostIn_13 : decode cX3_mostIn 13 = .ok (.if_icmp .ge 89, 3) := by decide +kernel
theorem dX3_mostIn_16 : decode cX3_mostIn 16 = .ok (.aload_n 1, 1) := by decide +kernel
theorem dX3_mostIn_17 : decode cX3_mostIn 17 = .ok (.getfield 114, 3) := by decide +kernel
theorem dX3_mostIn_20 : decode cX3_mostIn 20 = .ok (.iload 4, 2) := by decide +kernel
theorem dX3_mostIn_22 : decode cX3_mostIn 22 = .ok (.iaload, 1) := by decide +kernel
theorem dX3_mostIn_23 : decode cX3_mostIn 23 = .ok (.aload_n 1, 1) := by decide +kernel
theorem dX3_mostIn_24 : decode cX3_mostIn 24 = .ok (.bipush 6, 2) := by decide +kernel
theorem dX3_mostIn_26 : decode cX3_mostIn 26 = .ok (.invokevirtual 73, 3) := by decide +kernel
theorem dX3_mostIn_29 : decode cX3_mostIn 29 = .ok (.imul, 1) := by decide +kernel
theorem dX3_mostIn_30 : decode cX3_mostIn 30 = .ok (.iload_n 3, 1) := by decide +kernel
theorem dX3_mostIn_31 : decode cX3_mostIn 31 = .ok (.imul, 1) := by decide +kernel
theorem dX3_mostIn_32 : decode cX3_mostIn 32 = .ok (.istore 5, 2) := by decide +kernel
theorem dX3_mostIn_34 : decode cX3_mostIn 34 = .ok (.aload_n 2, 1) := by decide +kernel
theorem dX3_mostIn_35 : decode cX3_mostIn 35 = .ok (.getfield 117, 3) := by decide +kernel
theorem dX3_mostIn_38 : decode cX3_mostIn 38 = .ok (.iload 4, 2) := by decide +kernel
theorem dX3_mostIn_40 : decode cX3_mostIn 40 = .ok (.aload_n 0, 1) := by decide +kernel
theorem dX3_mostIn_41 : decode cX3_mostIn 41 = .ok (.getfield 27, 3) := by decide +kernel
theorem dX3_mostIn_44 : decode cX3_mostIn 44 = .ok (.iload 4, 2) := by decide +kernel
theorem dX3_mostIn_46 : decode cX3_mostIn 46 = .ok (.iaload, 1) := by decide +kernel
theorem dX3_mostIn_47 : decode cX3_mostIn 47 = .ok (.iload 5, 2) := by decide +kernel
theorem dX3_mostIn_49 : decode cX3_mostIn 49 = .ok (.invokestatic 84, 3) := by decide +kernel
theorem dX3_mostIn_52 : decode cX3_mostIn 52 = .ok (.iastore, 1) := by decide +kernel
theorem dX3_mostIn_53 : decode cX3_mostIn 53 = .ok (.iconst 0, 1) := by decide +kernel
theorem dX3_mostIn_54 : decode cX3_mostIn 54 = .ok (.istore 6, 2) := by decide +kernel
theorem dX3_mostIn_56 : decode cX3_mostIn 56 = .ok (.iload 6, 2) := by decide +kernel
theorem dX3_mostIn_58 : decode cX3_mostIn 58 = .ok (.aload_n 1, 1) := by decide +kernel
theorem dX3_mostIn_59 : decode cX3_mostIn 59 = .ok (.getfield 120, 3) := by decide +kernel
theorem dX3_mostIn_62 : decode cX3_mostIn 62 = .ok (.if_icmp .ge 34, 3) := by decide +kernel
theorem dX3_mostIn_65 : decode cX3_mostIn 65 = .ok (.aload_n 1, 1) := by decide +kernel
theorem dX3_mostIn_66 : decode cX3_mostIn 66 = .ok (.iload 4, 2) := by decide +kernel
theorem dX3_mostIn_68 : decode cX3_mostIn 68 = .ok (.iload 6, 2) := by decide +kernel
theorem dX3_mostIn_70 : decode cX3_mostIn 70 = .ok (.invokevirtual 96, 3) := by decide +kernel
theorem dX3_mostIn_73 : decode cX3_mostIn 73 = .ok (.ifCond .eq 17, 3) := by decide +kernel
theorem dX3_mostIn_76 : decode cX3_mostIn 76 = .ok (.aload_n 2, 1) := by decide +kernel
theorem dX3_mostIn_77 : decode cX3_mostIn 77 = .ok (.getfield 123, 3) := by decide +kernel
theorem dX3_mostIn_80 : decode cX3_mostIn 80 = .ok (.iload 4, 2) := by decide +kernel
theorem dX3_mostIn_82 : decode cX3_mostIn 82 = .ok (.dup2, 1) := by decide +kernel
theorem dX3_mostIn_83 : decode cX3_mostIn 83 = .ok (.iaload, 1) := by decide +kernel
theorem dX3_mostIn_84 : decode cX3_mostIn 84 = .ok (.iconst 1, 1) := by decide +kernel
theorem dX3_mostIn_85 : decode cX3_mostIn 85 = .ok (.iload 6, 2) := by decide +kernel
theorem dX3_mostIn_87 : decode cX3_mostIn 87 = .ok (.ishl, 1) := by decide +kernel
theorem dX3_mostIn_88 : decode cX3_mostIn 88 = .ok (.ior, 1) := by decide +kernel
theorem dX3_mostIn_89 : decode cX3_mostIn 89 = .ok (.iastore, 1) := by decide +kernel
theorem dX3_mostIn_90 : decode cX3_mostIn 90 = .ok (.iinc 6 1, 3) := by decide +kernel
theorem dX3_mostIn_93 : decode cX3_mostIn 93 = .ok (.goto (-37), 3) := by decide +kernel
theorem dX3_mostIn_96 : decode cX3_mostIn 96 = .ok (.iinc 4 1, 3) := by decide +kernel
theorem dX3_mostIn_99 : decode cX3_mostIn 99 = .ok (.goto (-92), 3) := by decide +kernel
theorem dX3_mostIn_102 : decode cX3_mostIn 102 = .ok (.iconst 0, 1) := by decide +kernel
theorem dX3_mostIn_103 : decode cX3_mostIn 103 = .ok (.istore 4, 2) := by decide +kernel
theorem dX3_mostIn_105 : decode cX3_mostIn 105 = .ok (.iload 4, 2) := by decide +kernel
theorem dX3_mostIn_107 : decode cX3_mostIn 107 = .ok (.aload_n 1, 1) := by decide +kernel
theorem dX3_mostIn_108 : decode cX3_mostIn 108 = .ok (.getfield 120, 3) := by decide +kernel
theorem dX3_mostIn_111 : decode cX3_mostIn 111 = .ok (.if_icmp .ge 35, 3) := by decide +kernel
theorem dX3_mostIn_114 : decode cX3_mostIn 114 = .ok (.aload_n 2, 1) := by decide +kernel
theorem dX3_mostIn_115 : decode cX3_mostIn 115 = .ok (.getfield 126, 3) := by decide +kernel
theorem dX3_mostIn_118 : decode cX3_mostIn 118 = .ok (.iload 4, 2) := by decide +kernel
theorem dX3_mostIn_120 : decode cX3_mostIn 120 = .ok (.aload_n 1, 1) := by decide +kernel
theorem dX3_mostIn_121 : decode cX3_mostIn 121 = .ok (.getfield 129, 3) := by decide +kernel
theorem dX3_mostIn_124 : decode cX3_mostIn 124 = .ok (.iload 4, 2) := by decide +kernel
theorem dX3_mostIn_126 : decode cX3_mostIn 126 = .ok (.iaload, 1) := by decide +kernel
theorem dX3_mostIn_127 : decode cX3_mostIn 127 = .ok (.iload_n 3, 1) := by decide +kernel
theorem dX3_mostIn_128 : decode cX3_mostIn 128 = .ok (.imul, 1) := by decide +kernel
theorem dX3_mostIn_129 : decode cX3_mostIn 129 = .ok (.aload_n 0, 1) := by decide +kernel
theorem dX3_mostIn_130 : decode cX3_mostIn 130 = .ok (.aload_n 1, 1) := by decide +kernel
theorem dX3_mostIn_131 : decode cX3_mostIn 131 = .ok (.iload 4, 2) := by decide +kernel
theorem dX3_mostIn_133 : decode cX3_mostIn 133 = .ok (.invokevirtual 100, 3) := by decide +kernel
theorem dX3_mostIn_136 : decode cX3_mostIn 136 = .ok (.invokestatic 84, 3) := by decide +kernel
theorem dX3_mostIn_139 : decode cX3_mostIn 139 = .ok (.iastore, 1) := by decide +kernel
theorem dX3_mostIn_140 : decode cX3_mostIn 140 = .ok (.iinc 4 1, 3) := by decide +kernel
theorem dX3_mostIn_143 : decode cX3_mostIn 143 = .ok (.goto (-38), 3) := by decide +kernel
theorem dX3_mostIn_146 : decode cX3_mostIn 146 = .ok (.aload_n 2, 1) := by decide +kernel
theorem dX3_mostIn_147 : decode cX3_mostIn 147 = .ok (.invokevirtual 132, 3) := by decide +kernel
theorem dX3_mostIn_150 : decode cX3_mostIn 150 = .ok (.ireturn, 1) := by decide +kernel
theorem dX3_fewestDays_0 : decode cX3_fewestDays 0 = .ok (.iconst 0, 1) := by decide +kernel
theorem dX3_fewestDays_1 : decode cX3_fewestDays 1 = .ok (.istore_n 3, 1) := by decide +kernel
theorem dX3_fewestDays_2 : decode cX3_fewestDays 2 = .ok (.iconst 0, 1) := by decide +kernel
theorem dX3_fewestDays_3 : decode cX3_fewestDays 3 = .ok (.istore 4, 2) := by decide +kernel
theorem dX3_fewestDays_5 : decode cX3_fewestDays 5 = .ok (.iload 4, 2) := by decide +kernel
theorem dX3_fewestDays_7 : decode cX3_fewestDays 7 = .ok (.aload_n 1, 1) := by decide +kernel
theorem dX3_fewestDays_8 : decode cX3_fewestDays 8 = .ok (.getfield 111, 3) := by decide +kernel
theorem dX3_fewestDays_11 : decode cX3_fewestDays 11 = .ok (.if_icmp .ge 19, 3) := by decide +kernel
theorem dX3_fewestDays_14 : decode cX3_fewestDays 14 = .ok (.iload_n 3, 1) := by decide +kernel
theorem dX3_fewestDays_15 : decode cX3_fewestDays 15 = .ok (.aload_n 0, 1) := by decide +kernel
theorem dX3_fewestDays_16 : decode cX3_fewestDays 16 = .ok (.getfield 27, 3) := by decide +kernel
theorem dX3_fewestDays_19 : decode cX3_fewestDays 19 = .ok (.iload 4, 2) := by decide +kernel
theorem dX3_fewestDays_21 : decode cX3_fewestDays 21 = .ok (.iaload, 1) := by decide +kernel
theorem dX3_fewestDays_22 : decode cX3_fewestDays 22 = .ok (.iadd, 1) := by decide +kernel
theorem dX3_fewestDays_23 : decode cX3_fewestDays 23 = .ok (.istore_n 3, 1) := by decide +kernel
theorem dX3_fewestDays_24 : decode cX3_fewestDays 24 = .ok (.iinc 4 1, 3) := by decide +kernel
theorem dX3_fewestDays_27 : decode cX3_fewestDays 27 = .ok (.goto (-22), 3) := by decide +kernel
theorem dX3_fewestDays_30 : decode cX3_fewestDays 30 = .ok (.iload_n 3, 1) := by decide +kernel
theorem dX3_fewestDays_31 : decode cX3_fewestDays 31 = .ok (.ifCond .ne 5, 3) := by decide +kernel
theorem dX3_fewestDays_34 : decode cX3_fewestDays 34 = .ok (.iconst 0, 1) := by decide +kernel
theorem dX3_fewestDays_35 : decode cX3_fewestDays 35 = .ok (.ireturn, 1) := by decide +kernel
theorem dX3_fewestDays_36 : decode cX3_fewestDays 36 = .ok (.iconst 1, 1) := by decide +kernel
theorem dX3_fewestDays_37 : decode cX3_fewestDays 37 = .ok (.istore 4, 2) := by decide +kernel
theorem dX3_fewestDays_39 : decode cX3_fewestDays 39 = .ok (.iload 4, 2) := by decide +kernel
theorem dX3_fewestDays_41 : decode cX3_fewestDays 41 = .ok (.bipush 99, 2) := by decide +kernel
theorem dX3_fewestDays_43 : decode cX3_fewestDays 43 = .ok (.if_icmp .gt 24, 3) := by decide +kernel
theorem dX3_fewestDays_46 : decode cX3_fewestDays 46 = .ok (.aload_n 0, 1) := by decide +kernel
theorem dX3_fewestDays_47 : decode cX3_fewestDays 47 = .ok (.aload_n 1, 1) := by decide +kernel
theorem dX3_fewestDays_48 : decode cX3_fewestDays 48 = .ok (.aload_n 2, 1) := by decide +kernel
theorem dX3_fewestDays_49 : decode cX3_fewestDays 49 = .ok (.iload 4, 2) := by decide +kernel
theorem dX3_fewestDays_51 : decode cX3_fewestDays 51 = .ok (.invokevirtual 135, 3) := by decide +kernel
theorem dX3_fewestDays_54 : decode cX3_fewestDays 54 = .ok (.iload_n 3, 1) := by decide +kernel
theorem dX3_fewestDays_55 : decode cX3_fewestDays 55 = .ok (.if_icmp .ne 6, 3) := by decide +kernel
theorem dX3_fewestDays_58 : decode cX3_fewestDays 58 = .ok (.iload 4, 2) := by decide +kernel
theorem dX3_fewestDays_60 : decode cX3_fewestDays 60 = .ok (.ireturn, 1) := by decide +kernel
theorem dX3_fewestDays_61 : decode cX3_fewestDays 61 = .ok (.iinc 4 1, 3) := by decide +kernel
theorem dX3_fewestDays_64 : decode cX3_fewestDays 64 = .ok (.goto (-25), 3) := by decide +kernel
theorem dX3_fewestDays_67 : decode cX3_fewestDays 67 = .ok (.iconst (-1), 1) := by decide +kernel
theorem dX3_fewestDays_68 : decode cX3_fewestDays 68 = .ok (.ireturn, 1) := by decide +kernel
theorem dX4_init_0 : decode cX4_init 0 = .ok (.aload_n 0, 1) := by decide +kernel
theorem dX4_init_1 : decode cX4_init 1 = .ok (.invokespecial 3, 3) := by decide +kernel
theorem dX4_init_4 : decode cX4_init 4 = .ok (.aload_n 0, 1) := by decide +kernel
theorem dX4_init_5 : decode cX4_init 5 = .ok (.iconst 5, 1) := by decide +kernel
theorem dX4_init_6 : decode cX4_init 6 = .ok (.newarray .int, 2) := by decide +kernel
theorem dX4_init_8 : decode cX4_init 8 = .ok (.putfield 9, 3) := by decide +kernel
theorem dX4_init_11 : decode cX4_init 11 = .ok (.aload_n 0, 1) := by decide +kernel
theorem dX4_init_12 : decode cX4_init 12 = .ok (.iconst 5, 1) := by decide +kernel
theorem dX4_init_13 : decode cX4_init 13 = .ok (.newarray .int, 2) := by decide +kernel
theorem dX4_init_15 : decode cX4_init 15 = .ok (.putfield 15, 3) := by decide +kernel
theorem dX4_init_18 : decode cX4_init 18 = .ok (.aload_n 0, 1) := by decide +kernel
theorem dX4_init_19 : decode cX4_init 19 = .ok (.iconst 5, 1) := by decide +kernel
theorem dX4_init_20 : decode cX4_init 20 = .ok (.newarray .int, 2) := by decide +kernel
theorem dX4_init_22 : decode cX4_init 22 = .ok (.putfield 18, 3) := by decide +kernel
theorem dX4_init_25 : decode cX4_init 25 = .ok (.return_, 1) := by decide +kernel
theorem dX4_clear_0 : decode cX4_clear 0 = .ok (.aload_n 0, 1) := by decide +kernel
theorem dX4_clear_1 : decode cX4_clear 1 = .ok (.getfield 9, 3) := by decide +kernel
theorem dX4_clear_4 : decode cX4_clear 4 = .ok (.iconst 0, 1) := by decide +kernel
theorem dX4_clear_5 : decode cX4_clear 5 = .ok (.invokestatic 21, 3) := by decide +kernel
theorem dX4_clear_8 : decode cX4_clear 8 = .ok (.aload_n 0, 1) := by decide +kernel
theorem dX4_clear_9 : decode cX4_clear 9 = .ok (.getfield 15, 3) := by decide +kernel
theorem dX4_clear_12 : decode cX4_clear 12 = .ok (.iconst 0, 1) := by decide +kernel
theorem dX4_clear_13 : decode cX4_clear 13 = .ok (.invokestatic 21, 3) := by decide +kernel
theorem dX4_clear_16 : decode cX4_clear 16 = .ok (.aload_n 0, 1) := by decide +kernel
theorem dX4_clear_17 : decode cX4_clear 17 = .ok (.getfield 18, 3) := by decide +kernel
theorem dX4_clear_20 : decode cX4_clear 20 = .ok (.iconst 0, 1) := by decide +kernel
theorem dX4_clear_21 : decode cX4_clear 21 = .ok (.invokestatic 21, 3) := by decide +kernel
theorem dX4_clear_24 : decode cX4_clear 24 = .ok (.return_, 1) := by decide +kernel
theorem dX4_greatest_0 : decode cX4_greatest 0 = .ok (.aload_n 0, 1) := by decide +kernel
theorem dX4_greatest_1 : decode cX4_greatest 1 = .ok (.iconst 0, 1) := by decide +kernel
theorem dX4_greatest_2 : decode cX4_greatest 2 = .ok (.invokevirtual 27, 3) := by decide +kernel
theorem dX4_greatest_5 : decode cX4_greatest 5 = .ok (.istore_n 1, 1) := by decide +kernel
theorem dX4_greatest_6 : decode cX4_greatest 6 = .ok (.iconst 1, 1) := by decide +kernel
theorem dX4_greatest_7 : decode cX4_greatest 7 = .ok (.istore_n 2, 1) := by decide +kernel
theorem dX4_greatest_8 : decode cX4_greatest 8 = .ok (.iload_n 2, 1) := by decide +kernel
theorem dX4_greatest_9 : decode cX4_greatest 9 = .ok (.bipush 32, 2) := by decide +kernel
theorem dX4_greatest_11 : decode cX4_greatest 11 = .ok (.if_icmp .ge 19, 3) := by decide +kernel
theorem dX4_greatest_14 : decode cX4_greatest 14 = .ok (.iload_n 1, 1) := by decide +kernel
theorem dX4_greatest_15 : decode cX4_greatest 15 = .ok (.aload_n 0, 1) := by decide +kernel
theorem dX4_greatest_16 : decode cX4_greatest 16 = .ok (.iload_n 2, 1) := by decide +kernel
theorem dX4_greatest_17 : decode cX4_greatest 17 = .ok (.invokevirtual 27, 3) := by decide +kernel
theorem dX4_greatest_20 : decode cX4_greatest 20 = .ok (.invokestatic 31, 3) := by decide +kernel
theorem dX4_greatest_23 : decode cX4_greatest 23 = .ok (.istore_n 1, 1) := by decide +kernel
theorem dX4_greatest_24 : decode cX4_greatest 24 = .ok (.iinc 2 1, 3) := by decide +kernel
theorem dX4_greatest_27 : decode cX4_greatest 27 = .ok (.goto (-19), 3) := by decide +kernel
theorem dX4_greatest_30 : decode cX4_greatest 30 = .ok (.iload_n 1, 1) := by decide +kernel
theorem dX4_greatest_31 : decode cX4_greatest 31 = .ok (.ireturn, 1) := by decide +kernel
theorem dX4_cutBehind_0 : decode cX4_cutBehind 0 = .ok (.iconst 0, 1) := by decide +kernel
theorem dX4_cutBehind_1 : decode cX4_cutBehind 1 = .ok (.istore_n 2, 1) := by decide +kernel
theorem dX4_cutBehind_2 : decode cX4_cutBehind 2 = .ok (.iconst 0, 1) := by decide +kernel
theorem dX4_cutBehind_3 : decode cX4_cutBehind 3 = .ok (.istore_n 3, 1) := by decide +kernel
theorem dX4_cutBehind_4 : decode cX4_cutBehind 4 = .ok (.iconst 0, 1) := by decide +kernel
theorem dX4_cutBehind_5 : decode cX4_cutBehind 5 = .ok (.istore 4, 2) := by decide +kernel
theorem dX4_cutBehind_7 : decode cX4_cutBehind 7 = .ok (.iload 4, 2) := by decide +kernel
theorem dX4_cutBehind_9 : decode cX4_cutBehind 9 = .ok (.iconst 5, 1) := by decide +kernel
theorem dX4_cutBehind_10 : decode cX4_cutBehind 10 = .ok (.if_icmp .ge 41, 3) := by decide +kernel
theorem dX4_cutBehind_13 : decode cX4_cutBehind 13 = .ok (.iload_n 1, 1) := by decide +kernel
theorem dX4_cutBehind_14 : decode cX4_cutBehind 14 = .ok (.iload 4, 2) := by decide +kernel
theorem dX4_cutBehind_16 : decode cX4_cutBehind 16 = .ok (.ishr, 1) := by decide +kernel
theorem dX4_cutBehind_17 : decode cX4_cutBehind 17 = .ok (.iconst 1, 1) := by decide +kernel
theorem dX4_cutBehind_18 : decode cX4_cutBehind 18 = .ok (.iand, 1) := by decide +kernel
theorem dX4_cutBehind_19 : decode cX4_cutBehind 19 = .ok (.ifCond .eq 16, 3) := by decide +kernel
theorem dX4_cutBehind_22 : decode cX4_cutBehind 22 = .ok (.iload_n 2, 1) := by decide +kernel
theorem dX4_cutBehind_23 : decode cX4_cutBehind 23 = .ok (.aload_n 0, 1) := by decide +kernel
theorem dX4_cutBehind_24 : decode cX4_cutBehind 24 = .ok (.getfield 18, 3) := by decide +kernel
theorem dX4_cutBehind_27 : decode cX4_cutBehind 27 = .ok (.iload 4, 2) := by decide +kernel
theorem dX4_cutBehind_29 : decode cX4_cutBehind 29 = .ok (.iaload, 1) := by decide +kernel
theorem dX4_cutBehind_30 : decode cX4_cutBehind 30 = .ok (.ior, 1) := by decide +kernel
theorem dX4_cutBehind_31 : decode cX4_cutBehind 31 = .ok (.istore_n 2, 1) := by decide +kernel
theorem dX4_cutBehind_32 : decode cX4_cutBehind 32 = .ok (.goto 13, 3) := by decide +kernel
theorem dX4_cutBehind_35 : decode cX4_cutBehind 35 = .ok (.iload_n 3, 1) := by decide +kernel
theorem dX4_cutBehind_36 : decode cX4_cutBehind 36 = .ok (.aload_n 0, 1) := by decide +kernel
theorem dX4_cutBehind_37 : decode cX4_cutBehind 37 = .ok (.getfield 9, 3) := by decide +kernel
theorem dX4_cutBehind_40 : decode cX4_cutBehind 40 = .ok (.iload 4, 2) := by decide +kernel
theorem dX4_cutBehind_42 : decode cX4_cutBehind 42 = .ok (.iaload, 1) := by decide +kernel
theorem dX4_cutBehind_43 : decode cX4_cutBehind 43 = .ok (.iadd, 1) := by decide +kernel
theorem dX4_cutBehind_44 : decode cX4_cutBehind 44 = .ok (.istore_n 3, 1) := by decide +kernel
theorem dX4_cutBehind_45 : decode cX4_cutBehind 45 = .ok (.iinc 4 1, 3) := by decide +kernel
theorem dX4_cutBehind_48 : decode cX4_cutBehind 48 = .ok (.goto (-41), 3) := by decide +kernel
theorem dX4_cutBehind_51 : decode cX4_cutBehind 51 = .ok (.iconst 0, 1) := by decide +kernel
theorem dX4_cutBehind_52 : decode cX4_cutBehind 52 = .ok (.istore 4, 2) := by decide +kernel
theorem dX4_cutBehind_54 : decode cX4_cutBehind 54 = .ok (.iload 4, 2) := by decide +kernel
theorem dX4_cutBehind_56 : decode cX4_cutBehind 56 = .ok (.iconst 5, 1) := by decide +kernel
theorem dX4_cutBehind_57 : decode cX4_cutBehind 57 = .ok (.if_icmp .ge 28, 3) := by decide +kernel
theorem dX4_cutBehind_60 : decode cX4_cutBehind 60 = .ok (.iload_n 2, 1) := by decide +kernel
theorem dX4_cutBehind_61 : decode cX4_cutBehind 61 = .ok (.iload 4, 2) := by decide +kernel
theorem dX4_cutBehind_63 : decode cX4_cutBehind 63 = .ok (.ishr, 1) := by decide +kernel
theorem dX4_cutBehind_64 : decode cX4_cutBehind 64 = .ok (.iconst 1, 1) := by decide +kernel
theorem dX4_cutBehind_65 : decode cX4_cutBehind 65 = .ok (.iand, 1) := by decide +kernel
theorem dX4_cutBehind_66 : decode cX4_cutBehind 66 = .ok (.ifCond .eq 13, 3) := by decide +kernel
theorem dX4_cutBehind_69 : decode cX4_cutBehind 69 = .ok (.iload_n 3, 1) := by decide +kernel
theorem dX4_cutBehind_70 : decode cX4_cutBehind 70 = .ok (.aload_n 0, 1) := by decide +kernel
theorem dX4_cutBehind_71 : decode cX4_cutBehind 71 = .ok (.getfield 15, 3) := by decide +kernel
theorem dX4_cutBehind_74 : decode cX4_cutBehind 74 = .ok (.iload 4, 2) := by decide +kernel
theorem dX4_cutBehind_76 : decode cX4_cutBehind 76 = .ok (.iaload, 1) := by decide +kernel
theorem dX4_cutBehind_77 : decode cX4_cutBehind 77 = .ok (.iadd, 1) := by decide +kernel
theorem dX4_cutBehind_78 : decode cX4_cutBehind 78 = .ok (.istore_n 3, 1) := by decide +kernel
theorem dX4_cutBehind_79 : decode cX4_cutBehind 79 = .ok (.iinc 4 1, 3) := by decide +kernel
theorem dX4_cutBehind_82 : decode cX4_cutBehind 82 = .ok (.goto (-28), 3) := by decide +kernel
theorem dX4_cutBehind_85 : decode cX4_cutBehind 85 = .ok (.iload_n 3, 1) := by decide +kernel
theorem dX4_cutBehind_86 : decode cX4_cutBehind 86 = .ok (.ireturn, 1) := by decide +kernel
theorem dX5_init_0 : decode cX5_init 0 = .ok (.aload_n 0, 1) := by decide +kernel
theorem dX5_init_1 : decode cX5_init 1 = .ok (.invokespecial 3, 3) := by decide +kernel
theorem dX5_init_4 : decode cX5_init 4 = .ok (.aload_n 0, 1) := by decide +kernel
theorem dX5_init_5 : decode cX5_init 5 = .ok (.sipush 401, 3) := by decide +kernel
theorem dX5_init_8 : decode cX5_init 8 = .ok (.newarray .int, 2) := by decide +kernel
theorem dX5_init_10 : decode cX5_init 10 = .ok (.putfield 9, 3) := by decide +kernel
theorem dX5_init_13 : decode cX5_init 13 = .ok (.return_, 1) := by decide +kernel
theorem dX5_reckon_0 : decode cX5_reckon 0 = .ok (.aload_n 0, 1) := by decide +kernel
theorem dX5_reckon_1 : decode cX5_reckon 1 = .ok (.getfield 9, 3) := by decide +kernel
theorem dX5_reckon_4 : decode cX5_reckon 4 = .ok (.iconst 0, 1) := by decide +kernel
theorem dX5_reckon_5 : decode cX5_reckon 5 = .ok (.ldc 15, 2) := by decide +kernel
theorem dX5_reckon_7 : decode cX5_reckon 7 = .ok (.iastore, 1) := by decide +kernel
theorem dX5_reckon_8 : decode cX5_reckon 8 = .ok (.iconst 1, 1) := by decide +kernel
theorem dX5_reckon_9 : decode cX5_reckon 9 = .ok (.istore_n 3, 1) := by decide +kernel
theorem dX5_reckon_10 : decode cX5_reckon 10 = .ok (.iload_n 3, 1) := by decide +kernel
theorem dX5_reckon_11 : decode cX5_reckon 11 = .ok (.aload_n 0, 1) := by decide +kernel
theorem dX5_reckon_12 : decode cX5_reckon 12 = .ok (.getfield 9, 3) := by decide +kernel
theorem dX5_reckon_15 : decode cX5_reckon 15 = .ok (.arraylength, 1) := by decide +kernel
theorem dX5_reckon_16 : decode cX5_reckon 16 = .ok (.if_icmp .ge 72, 3) := by decide +kernel
theorem dX5_reckon_19 : decode cX5_reckon 19 = .ok (.aload_n 0, 1) := by decide +kernel
theorem dX5_reckon_20 : decode cX5_reckon 20 = .ok (.getfield 9, 3) := by decide +kernel
theorem dX5_reckon_23 : decode cX5_reckon 23 = .ok (.iload_n 3, 1) := by decide +kernel
theorem dX5_reckon_24 : decode cX5_reckon 24 = .ok (.iconst 1, 1) := by decide +kernel
theorem dX5_reckon_25 : decode cX5_reckon 25 = .ok (.isub, 1) := by decide +kernel
theorem dX5_reckon_26 : decode cX5_reckon 26 = .ok (.iaload, 1) := by decide +kernel
theorem dX5_reckon_27 : decode cX5_reckon 27 = .ok (.istore 4, 2) := by decide +kernel
theorem dX5_reckon_29 : decode cX5_reckon 29 = .ok (.iconst 0, 1) := by decide +kernel
theorem dX5_reckon_30 : decode cX5_reckon 30 = .ok (.istore 5, 2) := by decide +kernel
theorem dX5_reckon_32 : decode cX5_reckon 32 = .ok (.iload 5, 2) := by decide +kernel
theorem dX5_reckon_34 : decode cX5_reckon 34 = .ok (.aload_n 1, 1) := by decide +kernel
theorem dX5_reckon_35 : decode cX5_reckon 35 = .ok (.getfield 16, 3) := by decide +kernel
theorem dX5_reckon_38 : decode cX5_reckon 38 = .ok (.if_icmp .ge 36, 3) := by decide +kernel
theorem dX5_reckon_41 : decode cX5_reckon 41 = .ok (.iload_n 2, 1) := by decide +kernel
theorem dX5_reckon_42 : decode cX5_reckon 42 = .ok (.iload 5, 2) := by decide +kernel
theorem dX5_reckon_44 : decode cX5_reckon 44 = .ok (.ishr, 1) := by decide +kernel
theorem dX5_reckon_45 : decode cX5_reckon 45 = .ok (.iconst 1, 1) := by decide +kernel
theorem dX5_reckon_46 : decode cX5_reckon 46 = .ok (.iand, 1) := by decide +kernel
theorem dX5_reckon_47 : decode cX5_reckon 47 = .ok (.ifCond .eq 21, 3) := by decide +kernel
theorem dX5_reckon_50 : decode cX5_reckon 50 = .ok (.iload 4, 2) := by decide +kernel
theorem dX5_reckon_52 : decode cX5_reckon 52 = .ok (.bipush 100, 2) := by decide +kernel
theorem dX5_reckon_54 : decode cX5_reckon 54 = .ok (.aload_n 1, 1) := by decide +kernel
theorem dX5_reckon_55 : decode cX5_reckon 55 = .ok (.getfield 22, 3) := by decide +kernel
theorem dX5_reckon_58 : decode cX5_reckon 58 = .ok (.iload 5, 2) := by decide +kernel
theorem dX5_reckon_60 : decode cX5_reckon 60 = .ok (.iaload, 1) := by decide +kernel
theorem dX5_reckon_61 : decode cX5_reckon 61 = .ok (.isub, 1) := by decide +kernel
theorem dX5_reckon_62 : decode cX5_reckon 62 = .ok (.imul, 1) := by decide +kernel
theorem dX5_reckon_63 : decode cX5_reckon 63 = .ok (.bipush 100, 2) := by decide +kernel
theorem dX5_reckon_65 : decode cX5_reckon 65 = .ok (.idiv, 1) := by decide +kernel
theorem dX5_reckon_66 : decode cX5_reckon 66 = .ok (.istore 4, 2) := by decide +kernel
theorem dX5_reckon_68 : decode cX5_reckon 68 = .ok (.iinc 5 1, 3) := by decide +kernel
theorem dX5_reckon_71 : decode cX5_reckon 71 = .ok (.goto (-39), 3) := by decide +kernel
theorem dX5_reckon_74 : decode cX5_reckon 74 = .ok (.aload_n 0, 1) := by decide +kernel
theorem dX5_reckon_75 : decode cX5_reckon 75 = .ok (.getfield 9, 3) := by decide +kernel
theorem dX5_reckon_78 : decode cX5_reckon 78 = .ok (.iload_n 3, 1) := by decide +kernel
theorem dX5_reckon_79 : decode cX5_reckon 79 = .ok (.iload 4, 2) := by decide +kernel
theorem dX5_reckon_81 : decode cX5_reckon 81 = .ok (.iastore, 1) := by decide +kernel
theorem dX5_reckon_82 : decode cX5_reckon 82 = .ok (.iinc 3 1, 3) := by decide +kernel
theorem dX5_reckon_85 : decode cX5_reckon 85 = .ok (.goto (-75), 3) := by decide +kernel
theorem dX5_reckon_88 : decode cX5_reckon 88 = .ok (.return_, 1) := by decide +kernel
theorem dX5_divide_0 : decode cX5_divide 0 = .ok (.aload_n 0, 1) := by decide +kernel
theorem dX5_divide_1 : decode cX5_divide 1 = .ok (.iconst 0, 1) := by decide +kernel
theorem dX5_divide_2 : decode cX5_divide 2 = .ok (.putfield 25, 3) := by decide +kernel
theorem dX5_divide_5 : decode cX5_divide 5 = .ok (.aload_n 0, 1) := by decide +kernel
theorem dX5_divide_6 : decode cX5_divide 6 = .ok (.iconst (-1), 1) := by decide +kernel
theorem dX5_divide_7 : decode cX5_divide 7 = .ok (.putfield 28, 3) := by decide +kernel
theorem dX5_divide_10 : decode cX5_divide 10 = .ok (.iconst 0, 1) := by decide +kernel
theorem dX5_divide_11 : decode cX5_divide 11 = .ok (.istore 4, 2) := by decide +kernel
theorem dX5_divide_13 : decode cX5_divide 13 = .ok (.iload 4, 2) := by decide +kernel
theorem dX5_divide_15 : decode cX5_divide 15 = .ok (.iload_n 2, 1) := by decide +kernel
theorem dX5_divide_16 : decode cX5_divide 16 = .ok (.iconst 2, 1) := by decide +kernel
theorem dX5_divide_17 : decode cX5_divide 17 = .ok (.idiv, 1) := by decide +kernel
theorem dX5_divide_18 : decode cX5_divide 18 = .ok (.if_icmp .gt 75, 3) := by decide +kernel
theorem dX5_divide_21 : decode cX5_divide 21 = .ok (.ldc 15, 2) := by decide +kernel
theorem dX5_divide_23 : decode cX5_divide 23 = .ok (.aload_n 0, 1) := by decide +kernel
theorem dX5_divide_24 : decode cX5_divide 24 = .ok (.aload_n 1, 1) := by decide +kernel
theorem dX5_divide_25 : decode cX5_divide 25 = .ok (.iload_n 3, 1) := by decide +kernel
theorem dX5_divide_26 : decode cX5_divide 26 = .ok (.iload_n 2, 1) := by decide +kernel
theorem dX5_divide_27 : decode cX5_divide 27 = .ok (.iload 4, 2) := by decide +kernel
theorem dX5_divide_29 : decode cX5_divide 29 = .ok (.isub, 1) := by decide +kernel
theorem dX5_divide_30 : decode cX5_divide 30 = .ok (.invokevirtual 31, 3) := by decide +kernel
theorem dX5_divide_33 : decode cX5_divide 33 = .ok (.isub, 1) := by decide +kernel
theorem dX5_divide_34 : decode cX5_divide 34 = .ok (.i2l, 1) := by decide +kernel
theorem dX5_divide_35 : decode cX5_divide 35 = .ok (.lstore 5, 2) := by decide +kernel
theorem dX5_divide_37 : decode cX5_divide 37 = .ok (.ldc 15, 2) := by decide +kernel
theorem dX5_divide_39 : decode cX5_divide 39 = .ok (.aload_n 0, 1) := by decide +kernel
theorem dX5_divide_40 : decode cX5_divide 40 = .ok (.aload_n 1, 1) := by decide +kernel
theorem dX5_divide_41 : decode cX5_divide 41 = .ok (.iload_n 3, 1) := by decide +kernel
theorem dX5_divide_42 : decode cX5_divide 42 = .ok (.iload 4, 2) := by decide +kernel
theorem dX5_divide_44 : decode cX5_divide 44 = .ok (.invokevirtual 31, 3) := by decide +kernel
theorem dX5_divide_47 : decode cX5_divide 47 = .ok (.isub, 1) := by decide +kernel
theorem dX5_divide_48 : decode cX5_divide 48 = .ok (.i2l, 1) := by decide +kernel
theorem dX5_divide_49 : decode cX5_divide 49 = .ok (.lstore 7, 2) := by decide +kernel
theorem dX5_divide_51 : decode cX5_divide 51 = .ok (.ldc 15, 2) := by decide +kernel
theorem dX5_divide_53 : decode cX5_divide 53 = .ok (.lload 5, 2) := by decide +kernel
theorem dX5_divide_55 : decode cX5_divide 55 = .ok (.lload 7, 2) := by decide +kernel
theorem dX5_divide_57 : decode cX5_divide 57 = .ok (.lmul, 1) := by decide +kernel
theorem dX5_divide_58 : decode cX5_divide 58 = .ok (.ldc2_w 35, 3) := by decide +kernel
theorem dX5_divide_61 : decode cX5_divide 61 = .ok (.ldiv, 1) := by decide +kernel
theorem dX5_divide_62 : decode cX5_divide 62 = .ok (.l2i, 1) := by decide +kernel
theorem dX5_divide_63 : decode cX5_divide 63 = .ok (.isub, 1) := by decide +kernel
theorem dX5_divide_64 : decode cX5_divide 64 = .ok (.istore 9, 2) := by decide +kernel
theorem dX5_divide_66 : decode cX5_divide 66 = .ok (.iload 9, 2) := by decide +kernel
theorem dX5_divide_68 : decode cX5_divide 68 = .ok (.aload_n 0, 1) := by decide +kernel
theorem dX5_divide_69 : decode cX5_divide 69 = .ok (.getfield 28, 3) := by decide +kernel
theorem dX5_divide_72 : decode cX5_divide 72 = .ok (.if_icmp .le 15, 3) := by decide +kernel
theorem dX5_divide_75 : decode cX5_divide 75 = .ok (.aload_n 0, 1) := by decide +kernel
theorem dX5_divide_76 : decode cX5_divide 76 = .ok (.iload 4, 2) := by decide +kernel
theorem dX5_divide_78 : decode cX5_divide 78 = .ok (.putfield 25, 3) := by decide +kernel
theorem dX5_divide_81 : decode cX5_divide 81 = .ok (.aload_n 0, 1) := by decide +kernel
theorem dX5_divide_82 : decode cX5_divide 82 = .ok (.iload 9, 2) := by decide +kernel
theorem dX5_divide_84 : decode cX5_divide 84 = .ok (.putfield 28, 3) := by decide +kernel
theorem dX5_divide_87 : decode cX5_divide 87 = .ok (.iinc 4 1, 3) := by decide +kernel
theorem dX5_divide_90 : decode cX5_divide 90 = .ok (.goto (-77), 3) := by decide +kernel
theorem dX5_divide_93 : decode cX5_divide 93 = .ok (.return_, 1) := by decide +kernel
theorem dX5_keptUntilDug_0 : decode cX5_keptUntilDug 0 = .ok (.aload_n 1, 1) := by decide +kernel
theorem dX5_keptUntilDug_1 : decode cX5_keptUntilDug 1 = .ok (.iload_n 2, 1) := by decide +kernel
theorem dX5_keptUntilDug_2 : decode cX5_keptUntilDug 2 = .ok (.iload_n 3, 1) := by decide +kernel
theorem dX5_keptUntilDug_3 : decode cX5_keptUntilDug 3 = .ok (.invokevirtual 37, 3) := by decide +kernel
theorem dX5_keptUntilDug_6 : decode cX5_keptUntilDug 6 = .ok (.istore 4, 2) := by decide +kernel
theorem dX5_keptUntilDug_8 : decode cX5_keptUntilDug 8 = .ok (.iload 4, 2) := by decide +kernel
theorem dX5_keptUntilDug_10 : decode cX5_keptUntilDug 10 = .ok (.iconst (-1), 1) := by decide +kernel
theorem dX5_keptUntilDug_11 : decode cX5_keptUntilDug 11 = .ok (.if_icmp .ne 7, 3) := by decide +kernel
theorem dX5_keptUntilDug_14 : decode cX5_keptUntilDug 14 = .ok (.iconst 0, 1) := by decide +kernel
theorem dX5_keptUntilDug_15 : decode cX5_keptUntilDug 15 = .ok (.goto 10, 3) := by decide +kernel
theorem dX5_keptUntilDug_18 : decode cX5_keptUntilDug 18 = .ok (.aload_n 0, 1) := by decide +kernel
theorem dX5_keptUntilDug_19 : decode cX5_keptUntilDug 19 = .ok (.getfield 9, 3) := by decide +kernel
theorem dX5_keptUntilDug_22 : decode cX5_keptUntilDug 22 = .ok (.iload 4, 2) := by decide +kernel
theorem dX5_keptUntilDug_24 : decode cX5_keptUntilDug 24 = .ok (.iaload, 1) := by decide +kernel
theorem dX5_keptUntilDug_25 : decode cX5_keptUntilDug 25 = .ok (.ireturn, 1) := by decide +kernel
theorem dX6_init_0 : decode cX6_init 0 = .ok (.aload_n 0, 1) := by decide +kernel
theorem dX6_init_1 : decode cX6_init 1 = .ok (.invokespecial 1, 3) := by decide +kernel
theorem dX6_init_4 : decode cX6_init 4 = .ok (.aload_n 0, 1) := by decide +kernel
theorem dX6_init_5 : decode cX6_init 5 = .ok (.bipush 30, 2) := by decide +kernel
theorem dX6_init_7 : decode cX6_init 7 = .ok (.newarray .int, 2) := by decide +kernel
theorem dX6_init_9 : decode cX6_init 9 = .ok (.putfield 9, 3) := by decide +kernel
theorem dX6_init_12 : decode cX6_init 12 = .ok (.aload_n 0, 1) := by decide +kernel
theorem dX6_init_13 : decode cX6_init 13 = .ok (.new 13, 3) := by decide +kernel
theorem dX6_init_16 : decode cX6_init 16 = .ok (.dup, 1) := by decide +kernel
theorem dX6_init_17 : decode cX6_init 17 = .ok (.invokespecial 15, 3) := by decide +kernel
theorem dX6_init_20 : decode cX6_init 20 = .ok (.putfield 16, 3) := by decide +kernel
theorem dX6_init_23 : decode cX6_init 23 = .ok (.return_, 1) := by decide +kernel
theorem dX6_clear_0 : decode cX6_clear 0 = .ok (.aload_n 0, 1) := by decide +kernel
theorem dX6_clear_1 : decode cX6_clear 1 = .ok (.iconst 0, 1) := by decide +kernel
theorem dX6_clear_2 : decode cX6_clear 2 = .ok (.putfield 20, 3) := by decide +kernel
theorem dX6_clear_5 : decode cX6_clear 5 = .ok (.return_, 1) := by decide +kernel
theorem dX6_begin_0 : decode cX6_begin 0 = .ok (.aload_n 0, 1) := by decide +kernel
theorem dX6_begin_1 : decode cX6_begin 1 = .ok (.getfield 16, 3) := by decide +kernel
theorem dX6_begin_4 : decode cX6_begin 4 = .ok (.iload_n 1, 1) := by decide +kernel
theorem dX6_begin_5 : decode cX6_begin 5 = .ok (.i2l, 1) := by decide +kernel
theorem dX6_begin_6 : decode cX6_begin 6 = .ok (.putfield 24, 3) := by decide +kernel
theorem dX6_begin_9 : decode cX6_begin 9 = .ok (.aload_n 0, 1) := by decide +kernel
theorem dX6_begin_10 : decode cX6_begin 10 = .ok (.iload_n 2, 1) := by decide +kernel
theorem dX6_begin_11 : decode cX6_begin 11 = .ok (.putfield 28, 3) := by decide +kernel
theorem dX6_begin_14 : decode cX6_begin 14 = .ok (.aload_n 0, 1) := by decide +kernel
theorem dX6_begin_15 : decode cX6_begin 15 = .ok (.iconst 0, 1) := by decide +kernel
theorem dX6_begin_16 : decode cX6_begin 16 = .ok (.putfield 20, 3) := by decide +kernel
theorem dX6_begin_19 : decode cX6_begin 19 = .ok (.return_, 1) := by decide +kernel
theorem dX6_drawFrom_0 : decode cX6_drawFrom 0 = .ok (.iconst 0, 1) := by decide +kernel
theorem dX6_drawFrom_1 : decode cX6_drawFrom 1 = .ok (.istore_n 3, 1) := by decide +kernel
theorem dX6_drawFrom_2 : decode cX6_drawFrom 2 = .ok (.iload_n 3, 1) := by decide +kernel
theorem dX6_drawFrom_3 : decode cX6_drawFrom 3 = .ok (.iload_n 2, 1) := by decide +kernel
theorem dX6_drawFrom_4 : decode cX6_drawFrom 4 = .ok (.if_icmp .ge 81, 3) := by decide +kernel
theorem dX6_drawFrom_7 : decode cX6_drawFrom 7 = .ok (.aload_n 0, 1) := by decide +kernel
theorem dX6_drawFrom_8 : decode cX6_drawFrom 8 = .ok (.getfield 20, 3) := by decide +kernel
theorem dX6_drawFrom_11 : decode cX6_drawFrom 11 = .ok (.bipush 30, 2) := by decide +kernel
theorem dX6_drawFrom_13 : decode cX6_drawFrom 13 = .ok (.if_icmp .ge 72, 3) := by decide +kernel
theorem dX6_drawFrom_16 : decode cX6_drawFrom 16 = .ok (.iload_n 1, 1) := by decide +kernel
theorem dX6_drawFrom_17 : decode cX6_drawFrom 17 = .ok (.aload_n 0, 1) := by decide +kernel
theorem dX6_drawFrom_18 : decode cX6_drawFrom 18 = .ok (.getfield 28, 3) := by decide +kernel
theorem dX6_drawFrom_21 : decode cX6_drawFrom 21 = .ok (.iand, 1) := by decide +kernel
theorem dX6_drawFrom_22 : decode cX6_drawFrom 22 = .ok (.istore 4, 2) := by decide +kernel
theorem dX6_drawFrom_24 : decode cX6_drawFrom 24 = .ok (.iload 4, 2) := by decide +kernel
theorem dX6_drawFrom_26 : decode cX6_drawFrom 26 = .ok (.aload_n 0, 1) := by decide +kernel
theorem dX6_drawFrom_27 : decode cX6_drawFrom 27 = .ok (.getfield 16, 3) := by decide +kernel
theorem dX6_drawFrom_30 : decode cX6_drawFrom 30 = .ok (.iload 4, 2) := by decide +kernel
theorem dX6_drawFrom_32 : decode cX6_drawFrom 32 = .ok (.invokestatic 31, 3) := by decide +kernel
theorem dX6_drawFrom_35 : decode cX6_drawFrom 35 = .ok (.invokevirtual 37, 3) := by decide +kernel
theorem dX6_drawFrom_38 : decode cX6_drawFrom 38 = .ok (.invokestatic 40, 3) := by decide +kernel
theorem dX6_drawFrom_41 : decode cX6_drawFrom 41 = .ok (.istore 5, 2) := by decide +kernel
theorem dX6_drawFrom_43 : decode cX6_drawFrom 43 = .ok (.aload_n 0, 1) := by decide +kernel
theorem dX6_drawFrom_44 : decode cX6_drawFrom 44 = .ok (.getfield 9, 3) := by decide +kernel
theorem dX6_drawFrom_47 : decode cX6_drawFrom 47 = .ok (.aload_n 0, 1) := by decide +kernel
theorem dX6_drawFrom_48 : decode cX6_drawFrom 48 = .ok (.getfield 20, 3) := by decide +kernel
theorem dX6_drawFrom_51 : decode cX6_drawFrom 51 = .ok (.iload 5, 2) := by decide +kernel
theorem dX6_drawFrom_53 : decode cX6_drawFrom 53 = .ok (.iastore, 1) := by decide +kernel
theorem dX6_drawFrom_54 : decode cX6_drawFrom 54 = .ok (.aload_n 0, 1) := by decide +kernel
theorem dX6_drawFrom_55 : decode cX6_drawFrom 55 = .ok (.dup, 1) := by decide +kernel
theorem dX6_drawFrom_56 : decode cX6_drawFrom 56 = .ok (.getfield 20, 3) := by decide +kernel
theorem dX6_drawFrom_59 : decode cX6_drawFrom 59 = .ok (.iconst 1, 1) := by decide +kernel
theorem dX6_drawFrom_60 : decode cX6_drawFrom 60 = .ok (.iadd, 1) := by decide +kernel
theorem dX6_drawFrom_61 : decode cX6_drawFrom 61 = .ok (.putfield 20, 3) := by decide +kernel
theorem dX6_drawFrom_64 : decode cX6_drawFrom 64 = .ok (.aload_n 0, 1) := by decide +kernel
theorem dX6_drawFrom_65 : decode cX6_drawFrom 65 = .ok (.dup, 1) := by decide +kernel
theorem dX6_drawFrom_66 : decode cX6_drawFrom 66 = .ok (.getfield 28, 3) := by decide +kernel
theorem dX6_drawFrom_69 : decode cX6_drawFrom 69 = .ok (.iconst 1, 1) := by decide +kernel
theorem dX6_drawFrom_70 : decode cX6_drawFrom 70 = .ok (.iload 5, 2) := by decide +kernel
theorem dX6_drawFrom_72 : decode cX6_drawFrom 72 = .ok (.ishl, 1) := by decide +kernel
theorem dX6_drawFrom_73 : decode cX6_drawFrom 73 = .ok (.iconst (-1), 1) := by decide +kernel
theorem dX6_drawFrom_74 : decode cX6_drawFrom 74 = .ok (.ixor, 1) := by decide +kernel
theorem dX6_drawFrom_75 : decode cX6_drawFrom 75 = .ok (.iand, 1) := by decide +kernel
theorem dX6_drawFrom_76 : decode cX6_drawFrom 76 = .ok (.putfield 28, 3) := by decide +kernel
theorem dX6_drawFrom_79 : decode cX6_drawFrom 79 = .ok (.iinc 3 1, 3) := by decide +kernel
theorem dX6_drawFrom_82 : decode cX6_drawFrom 82 = .ok (.goto (-80), 3) := by decide +kernel
theorem dX6_drawFrom_85 : decode cX6_drawFrom 85 = .ok (.return_, 1) := by decide +kernel
theorem dX6_memberOf_0 : decode cX6_memberOf 0 = .ok (.iload_n 0, 1) := by decide +kernel
theorem dX6_memberOf_1 : decode cX6_memberOf 1 = .ok (.istore_n 2, 1) := by decide +kernel
theorem dX6_memberOf_2 : decode cX6_memberOf 2 = .ok (.iconst 0, 1) := by decide +kernel
theorem dX6_memberOf_3 : decode cX6_memberOf 3 = .ok (.istore_n 3, 1) := by decide +kernel
theorem dX6_memberOf_4 : decode cX6_memberOf 4 = .ok (.iload_n 3, 1) := by decide +kernel
theorem dX6_memberOf_5 : decode cX6_memberOf 5 = .ok (.iload_n 1, 1) := by decide +kernel
theorem dX6_memberOf_6 : decode cX6_memberOf 6 = .ok (.if_icmp .ge 15, 3) := by decide +kernel
theorem dX6_memberOf_9 : decode cX6_memberOf 9 = .ok (.iload_n 2, 1) := by decide +kernel
theorem dX6_memberOf_10 : decode cX6_memberOf 10 = .ok (.iload_n 2, 1) := by decide +kernel
theorem dX6_memberOf_11 : decode cX6_memberOf 11 = .ok (.iconst 1, 1) := by decide +kernel
theorem dX6_memberOf_12 : decode cX6_memberOf 12 = .ok (.isub, 1) := by decide +kernel
theorem dX6_memberOf_13 : decode cX6_memberOf 13 = .ok (.iand, 1) := by decide +kernel
theorem dX6_memberOf_14 : decode cX6_memberOf 14 = .ok (.istore_n 2, 1) := by decide +kernel
theorem dX6_memberOf_15 : decode cX6_memberOf 15 = .ok (.iinc 3 1, 3) := by decide +kernel
theorem dX6_memberOf_18 : decode cX6_memberOf 18 = .ok (.goto (-14), 3) := by decide +kernel
theorem dX6_memberOf_21 : decode cX6_memberOf 21 = .ok (.iload_n 2, 1) := by decide +kernel
theorem dX6_memberOf_22 : decode cX6_memberOf 22 = .ok (.invokestatic 44, 3) := by decide +kernel
theorem dX6_memberOf_25 : decode cX6_memberOf 25 = .ok (.ireturn, 1) := by decide +kernel
theorem dX7_init_0 : decode cX7_init 0 = .ok (.aload_n 0, 1) := by decide +kernel
theorem dX7_init_1 : decode cX7_init 1 = .ok (.invokespecial 3, 3) := by decide +kernel
theorem dX7_init_4 : decode cX7_init 4 = .ok (.aload_n 0, 1) := by decide +kernel
theorem dX7_init_5 : decode cX7_init 5 = .ok (.bipush 8, 2) := by decide +kernel
theorem dX7_init_7 : decode cX7_init 7 = .ok (.newarray .int, 2) := by decide +kernel
theorem dX7_init_9 : decode cX7_init 9 = .ok (.putfield 11, 3) := by decide +kernel
theorem dX7_init_12 : decode cX7_init 12 = .ok (.aload_n 0, 1) := by decide +kernel
theorem dX7_init_13 : decode cX7_init 13 = .ok (.iconst 5, 1) := by decide +kernel
theorem dX7_init_14 : decode cX7_init 14 = .ok (.newarray .int, 2) := by decide +kernel
theorem dX7_init_16 : decode cX7_init 16 = .ok (.putfield 15, 3) := by decide +kernel
theorem dX7_init_19 : decode cX7_init 19 = .ok (.aload_n 0, 1) := by decide +kernel
theorem dX7_init_20 : decode cX7_init 20 = .ok (.iconst 5, 1) := by decide +kernel
theorem dX7_init_21 : decode cX7_init 21 = .ok (.newarray .int, 2) := by decide +kernel
theorem dX7_init_23 : decode cX7_init 23 = .ok (.putfield 18, 3) := by decide +kernel
theorem dX7_init_26 : decode cX7_init 26 = .ok (.aload_n 0, 1) := by decide +kernel
theorem dX7_init_27 : decode cX7_init 27 = .ok (.bipush 8, 2) := by decide +kernel
theorem dX7_init_29 : decode cX7_init 29 = .ok (.newarray .int, 2) := by decide +kernel
theorem dX7_init_31 : decode cX7_init 31 = .ok (.putfield 21, 3) := by decide +kernel
theorem dX7_init_34 : decode cX7_init 34 = .ok (.aload_n 0, 1) := by decide +kernel
theorem dX7_init_35 : decode cX7_init 35 = .ok (.bipush 8, 2) := by decide +kernel
theorem dX7_init_37 : decode cX7_init 37 = .ok (.newarray .int, 2) := by decide +kernel
theorem dX7_init_39 : decode cX7_init 39 = .ok (.putfield 24, 3) := by decide +kernel
theorem dX7_init_42 : decode cX7_init 42 = .ok (.aload_n 0, 1) := by decide +kernel
theorem dX7_init_43 : decode cX7_init 43 = .ok (.sipush 256, 3) := by decide +kernel
theorem dX7_init_46 : decode cX7_init 46 = .ok (.newarray .int, 2) := by decide +kernel
theorem dX7_init_48 : decode cX7_init 48 = .ok (.putfield 27, 3) := by decide +kernel
theorem dX7_init_51 : decode cX7_init 51 = .ok (.aload_n 0, 1) := by decide +kernel
theorem dX7_init_52 : decode cX7_init 52 = .ok (.sipush 256, 3) := by decide +kernel
theorem dX7_init_55 : decode cX7_init 55 = .ok (.newarray .int, 2) := by decide +kernel
theorem dX7_init_57 : decode cX7_init 57 = .ok (.putfield 30, 3) := by decide +kernel
theorem dX7_init_60 : decode cX7_init 60 = .ok (.return_, 1) := by decide +kernel
theorem dX7_forgetRow_0 : decode cX7_forgetRow 0 = .ok (.aload_n 0, 1) := by decide +kernel
theorem dX7_forgetRow_1 : decode cX7_forgetRow 1 = .ok (.iconst 0, 1) := by decide +kernel
theorem dX7_forgetRow_2 : decode cX7_forgetRow 2 = .ok (.putfield 33, 3) := by decide +kernel
theorem dX7_forgetRow_5 : decode cX7_forgetRow 5 = .ok (.return_, 1) := by decide +kernel
theorem dX7_addPerson_0 : decode cX7_addPerson 0 = .ok (.aload_n 0, 1) := by decide +kernel
theorem dX7_addPerson_1 : decode cX7_addPerson 1 = .ok (.getfield 37, 3) := by decide +kernel
theorem dX7_addPerson_4 : decode cX7_addPerson 4 = .ok (.bipush 8, 2) := by decide +kernel
theorem dX7_addPerson_6 : decode cX7_addPerson 6 = .ok (.if_icmp .lt 6, 3) := by decide +kernel
theorem dX7_addPerson_9 : decode cX7_addPerson 9 = .ok (.bipush (-3), 2) := by decide +kernel
theorem dX7_addPerson_11 : decode cX7_addPerson 11 = .ok (.ireturn, 1) := by decide +kernel
theorem dX7_addPerson_12 : decode cX7_addPerson 12 = .ok (.aload_n 0, 1) := by decide +kernel
theorem dX7_addPerson_13 : decode cX7_addPerson 13 = .ok (.getfield 11, 3) := by decide +kernel
theorem dX7_addPerson_16 : decode cX7_addPerson 16 = .ok (.aload_n 0, 1) := by decide +kernel
theorem dX7_addPerson_17 : decode cX7_addPerson 17 = .ok (.getfield 37, 3) := by decide +kernel
theorem dX7_addPerson_20 : decode cX7_addPerson 20 = .ok (.iload_n 1, 1) := by decide +kernel
theorem dX7_addPerson_21 : decode cX7_addPerson 21 = .ok (.iastore, 1) := by decide +kernel
theorem dX7_addPerson_22 : decode cX7_addPerson 22 = .ok (.aload_n 0, 1) := by decide +kernel
theorem dX7_addPerson_23 : decode cX7_addPerson 23 = .ok (.dup, 1) := by decide +kernel
theorem dX7_addPerson_24 : decode cX7_addPerson 24 = .ok (.getfield 37, 3) := by decide +kernel
theorem dX7_addPerson_27 : decode cX7_addPerson 27 = .ok (.iconst 1, 1) := by decide +kernel
theorem dX7_addPerson_28 : decode cX7_addPerson 28 = .ok (.iadd, 1) := by decide +kernel
theorem dX7_addPerson_29 : decode cX7_addPerson 29 = .ok (.putfield 37, 3) := by decide +kernel
theorem dX7_addPerson_32 : decode cX7_addPerson 32 = .ok (.aload_n 0, 1) := by decide +kernel
theorem dX7_addPerson_33 : decode cX7_addPerson 33 = .ok (.getfield 37, 3) := by decide +kernel
theorem dX7_addPerson_36 : decode cX7_addPerson 36 = .ok (.iconst 1, 1) := by decide +kernel
theorem dX7_addPerson_37 : decode cX7_addPerson 37 = .ok (.isub, 1) := by decide +kernel
theorem dX7_addPerson_38 : decode cX7_addPerson 38 = .ok (.ireturn, 1) := by decide +kernel
theorem dX7_meetsRound_0 : decode cX7_meetsRound 0 = .ok (.aload_n 0, 1) := by decide +kernel
theorem dX7_meetsRound_1 : decode cX7_meetsRound 1 = .ok (.iload_n 1, 1) := by decide +kernel
theorem dX7_meetsRound_2 : decode cX7_meetsRound 2 = .ok (.iload_n 2, 1) := by decide +kernel
theorem dX7_meetsRound_3 : decode cX7_meetsRound 3 = .ok (.invokevirtual 40, 3) := by decide +kernel
theorem dX7_meetsRound_6 : decode cX7_meetsRound 6 = .ok (.iconst (-1), 1) := by decide +kernel
theorem dX7_meetsRound_7 : decode cX7_meetsRound 7 = .ok (.if_icmp .eq 7, 3) := by decide +kernel
theorem dX7_meetsRound_10 : decode cX7_meetsRound 10 = .ok (.iconst 1, 1) := by decide +kernel
theorem dX7_meetsRound_11 : decode cX7_meetsRound 11 = .ok (.goto 4, 3) := by decide +kernel
theorem dX7_meetsRound_14 : decode cX7_meetsRound 14 = .ok (.iconst 0, 1) := by decide +kernel
theorem dX7_meetsRound_15 : decode cX7_meetsRound 15 = .ok (.ireturn, 1) := by decide +kernel
theorem dX7_addRound_0 : decode cX7_addRound 0 = .ok (.aload_n 0, 1) := by decide +kernel
theorem dX7_addRound_1 : decode cX7_addRound 1 = .ok (.getfield 44, 3) := by decide +kernel
theorem dX7_addRound_4 : decode cX7_addRound 4 = .ok (.iconst 5, 1) := by decide +kernel
theorem dX7_addRound_5 : decode cX7_addRound 5 = .ok (.if_icmp .lt 6, 3) := by decide +kernel
theorem dX7_addRound_8 : decode cX7_addRound 8 = .ok (.bipush (-3), 2) := by decide +kernel
theorem dX7_addRound_10 : decode cX7_addRound 10 = .ok (.ireturn, 1) := by decide +kernel
theorem dX7_addRound_11 : decode cX7_addRound 11 = .ok (.aload_n 0, 1) := by decide +kernel
theorem dX7_addRound_12 : decode cX7_addRound 12 = .ok (.getfield 15, 3) := by decide +kernel
theorem dX7_addRound_15 : decode cX7_addRound 15 = .ok (.aload_n 0, 1) := by decide +kernel
theorem dX7_addRound_16 : decode cX7_addRound 16 = .ok (.getfield 44, 3) := by decide +kernel
theorem dX7_addRound_19 : decode cX7_addRound 19 = .ok (.iload_n 1, 1) := by decide +kernel
theorem dX7_addRound_20 : decode cX7_addRound 20 = .ok (.iastore, 1) := by decide +kernel
theorem dX7_addRound_21 : decode cX7_addRound 21 = .ok (.aload_n 0, 1) := by decide +kernel
theorem dX7_addRound_22 : decode cX7_addRound 22 = .ok (.getfield 18, 3) := by decide +kernel
theorem dX7_addRound_25 : decode cX7_addRound 25 = .ok (.aload_n 0, 1) := by decide +kernel
theorem dX7_addRound_26 : decode cX7_addRound 26 = .ok (.getfield 44, 3) := by decide +kernel
theorem dX7_addRound_29 : decode cX7_addRound 29 = .ok (.iload_n 2, 1) := by decide +kernel
theorem dX7_addRound_30 : decode cX7_addRound 30 = .ok (.iastore, 1) := by decide +kernel
theorem dX7_addRound_31 : decode cX7_addRound 31 = .ok (.aload_n 0, 1) := by decide +kernel
theorem dX7_addRound_32 : decode cX7_addRound 32 = .ok (.dup, 1) := by decide +kernel
theorem dX7_addRound_33 : decode cX7_addRound 33 = .ok (.getfield 44, 3) := by decide +kernel
theorem dX7_addRound_36 : decode cX7_addRound 36 = .ok (.iconst 1, 1) := by decide +kernel
theorem dX7_addRound_37 : decode cX7_addRound 37 = .ok (.iadd, 1) := by decide +kernel
theorem dX7_addRound_38 : decode cX7_addRound 38 = .ok (.putfield 44, 3) := by decide +kernel
theorem dX7_addRound_41 : decode cX7_addRound 41 = .ok (.aload_n 0, 1) := by decide +kernel
theorem dX7_addRound_42 : decode cX7_addRound 42 = .ok (.getfield 44, 3) := by decide +kernel
theorem dX7_addRound_45 : decode cX7_addRound 45 = .ok (.iconst 1, 1) := by decide +kernel
theorem dX7_addRound_46 : decode cX7_addRound 46 = .ok (.isub, 1) := by decide +kernel
theorem dX7_addRound_47 : decode cX7_addRound 47 = .ok (.ireturn, 1) := by decide +kernel
theorem dX7_roundMet_0 : decode cX7_roundMet 0 = .ok (.iconst 0, 1) := by decide +kernel
theorem dX7_roundMet_1 : decode cX7_roundMet 1 = .ok (.istore_n 3, 1) := by decide +kernel
theorem dX7_roundMet_2 : decode cX7_roundMet 2 = .ok (.iload_n 3, 1) := by decide +kernel
theorem dX7_roundMet_3 : decode cX7_roundMet 3 = .ok (.aload_n 0, 1) := by decide +kernel
theorem dX7_roundMet_4 : decode cX7_roundMet 4 = .ok (.getfield 44, 3) := by decide +kernel
theorem dX7_roundMet_7 : decode cX7_roundMet 7 = .ok (.if_icmp .ge 31, 3) := by decide +kernel
theorem dX7_roundMet_10 : decode cX7_roundMet 10 = .ok (.iload_n 1, 1) := by decide +kernel
theorem dX7_roundMet_11 : decode cX7_roundMet 11 = .ok (.aload_n 0, 1) := by decide +kernel
theorem dX7_roundMet_12 : decode cX7_roundMet 12 = .ok (.getfield 18, 3) := by decide +kernel
theorem dX7_roundMet_15 : decode cX7_roundMet 15 = .ok (.iload_n 3, 1) := by decide +kernel
theorem dX7_roundMet_16 : decode cX7_roundMet 16 = .ok (.iaload, 1) := by decide +kernel
theorem dX7_roundMet_17 : decode cX7_roundMet 17 = .ok (.if_icmp .ge 15, 3) := by decide +kernel
theorem dX7_roundMet_20 : decode cX7_roundMet 20 = .ok (.aload_n 0, 1) := by decide +kernel
theorem dX7_roundMet_21 : decode cX7_roundMet 21 = .ok (.getfield 15, 3) := by decide +kernel
theorem dX7_roundMet_24 : decode cX7_roundMet 24 = .ok (.iload_n 3, 1) := by decide +kernel
theorem dX7_roundMet_25 : decode cX7_roundMet 25 = .ok (.iaload, 1) := by decide +kernel
theorem dX7_roundMet_26 : decode cX7_roundMet 26 = .ok (.iload_n 2, 1) := by decide +kernel
theorem dX7_roundMet_27 : decode cX7_roundMet 27 = .ok (.if_icmp .ge 5, 3) := by decide +kernel
theorem dX7_roundMet_30 : decode cX7_roundMet 30 = .ok (.iload_n 3, 1) := by decide +kernel
theorem dX7_roundMet_31 : decode cX7_roundMet 31 = .ok (.ireturn, 1) := by decide +kernel
theorem dX7_roundMet_32 : decode cX7_roundMet 32 = .ok (.iinc 3 1, 3) := by decide +kernel
theorem dX7_roundMet_35 : decode cX7_roundMet 35 = .ok (.goto (-33), 3) := by decide +kernel
theorem dX7_roundMet_38 : decode cX7_roundMet 38 = .ok (.iconst (-1), 1) := by decide +kernel
theorem dX7_roundMet_39 : decode cX7_roundMet 39 = .ok (.ireturn, 1) := by decide +kernel
theorem dX7_outFrom_0 : decode cX7_outFrom 0 = .ok (.iload_n 1, 1) := by decide +kernel
theorem dX7_outFrom_1 : decode cX7_outFrom 1 = .ok (.istore_n 3, 1) := by decide +kernel
theorem dX7_outFrom_2 : decode cX7_outFrom 2 = .ok (.iconst 0, 1) := by decide +kernel
theorem dX7_outFrom_3 : decode cX7_outFrom 3 = .ok (.istore 4, 2) := by decide +kernel
theorem dX7_outFrom_5 : decode cX7_outFrom 5 = .ok (.iload 4, 2) := by decide +kernel
theorem dX7_outFrom_7 : decode cX7_outFrom 7 = .ok (.iconst 5, 1) := by decide +kernel
theorem dX7_outFrom_8 : decode cX7_outFrom 8 = .ok (.if_icmp .ge 38, 3) := by decide +kernel
theorem dX7_outFrom_11 : decode cX7_outFrom 11 = .ok (.aload_n 0, 1) := by decide +kernel
theorem dX7_outFrom_12 : decode cX7_outFrom 12 = .ok (.iload_n 3, 1) := by decide +kernel
theorem dX7_outFrom_13 : decode cX7_outFrom 13 = .ok (.iload_n 3, 1) := by decide +kernel
theorem dX7_outFrom_14 : decode cX7_outFrom 14 = .ok (.aload_n 0, 1) := by decide +kernel
theorem dX7_outFrom_15 : decode cX7_outFrom 15 = .ok (.getfield 11, 3) := by decide +kernel
theorem dX7_outFrom_18 : decode cX7_outFrom 18 = .ok (.iload_n 2, 1) := by decide +kernel
theorem dX7_outFrom_19 : decode cX7_outFrom 19 = .ok (.iaload, 1) := by decide +kernel
theorem dX7_outFrom_20 : decode cX7_outFrom 20 = .ok (.iadd, 1) := by decide +kernel
theorem dX7_outFrom_21 : decode cX7_outFrom 21 = .ok (.invokevirtual 40, 3) := by decide +kernel
theorem dX7_outFrom_24 : decode cX7_outFrom 24 = .ok (.istore 5, 2) := by decide +kernel
theorem dX7_outFrom_26 : decode cX7_outFrom 26 = .ok (.iload 5, 2) := by decide +kernel
theorem dX7_outFrom_28 : decode cX7_outFrom 28 = .ok (.iconst (-1), 1) := by decide +kernel
theorem dX7_outFrom_29 : decode cX7_outFrom 29 = .ok (.if_icmp .eq 11, 3) := by decide +kernel
theorem dX7_outFrom_32 : decode cX7_outFrom 32 = .ok (.aload_n 0, 1) := by decide +kernel
theorem dX7_outFrom_33 : decode cX7_outFrom 33 = .ok (.getfield 18, 3) := by decide +kernel
theorem dX7_outFrom_36 : decode cX7_outFrom 36 = .ok (.iload 5, 2) := by decide +kernel
theorem dX7_outFrom_38 : decode cX7_outFrom 38 = .ok (.iaload, 1) := by decide +kernel
theorem dX7_outFrom_39 : decode cX7_outFrom 39 = .ok (.istore_n 3, 1) := by decide +kernel
theorem dX7_outFrom_40 : decode cX7_outFrom 40 = .ok (.iinc 4 1, 3) := by decide +kernel
theorem dX7_outFrom_43 : decode cX7_outFrom 43 = .ok (.goto (-38), 3) := by decide +kernel
theorem dX7_outFrom_46 : decode cX7_outFrom 46 = .ok (.iload_n 3, 1) := by decide +kernel
theorem dX7_outFrom_47 : decode cX7_outFrom 47 = .ok (.aload_n 0, 1) := by decide +kernel
theorem dX7_outFrom_48 : decode cX7_outFrom 48 = .ok (.getfield 11, 3) := by decide +kernel
theorem dX7_outFrom_51 : decode cX7_outFrom 51 = .ok (.iload_n 2, 1) := by decide +kernel
theorem dX7_outFrom_52 : decode cX7_outFrom 52 = .ok (.iaload, 1) := by decide +kernel
theorem dX7_outFrom_53 : decode cX7_outFrom 53 = .ok (.iadd, 1) := by decide +kernel
theorem dX7_outFrom_54 : decode cX7_outFrom 54 = .ok (.ireturn, 1) := by decide +kernel
theorem dX7_beginBefore_0 : decode cX7_beginBefore 0 = .ok (.iload_n 1, 1) := by decide +kernel
theorem dX7_beginBefore_1 : decode cX7_beginBefore 1 = .ok (.aload_n 0, 1) := by decide +kernel
theorem dX7_beginBefore_2 : decode cX7_beginBefore 2 = .ok (.getfield 11, 3) := by decide +kernel
theorem dX7_beginBefore_5 : decode cX7_beginBefore 5 = .ok (.iload_n 2, 1) := by decide +kernel
theorem dX7_beginBefore_6 : decode cX7_beginBefore 6 = .ok (.iaload, 1) := by decide +kernel
theorem dX7_beginBefore_7 : decode cX7_beginBefore 7 = .ok (.isub, 1) := by decide +kernel
theorem dX7_beginBefore_8 : decode cX7_beginBefore 8 = .ok (.istore_n 3, 1) := by decide +kernel
theorem dX7_beginBefore_9 : decode cX7_beginBefore 9 = .ok (.iconst 0, 1) := by decide +kernel
theorem dX7_beginBefore_10 : decode cX7_beginBefore 10 = .ok (.istore 4, 2) := by decide +kernel
theorem dX7_beginBefore_12 : decode cX7_beginBefore 12 = .ok (.iload 4, 2) := by decide +kernel
theorem dX7_beginBefore_14 : decode cX7_beginBefore 14 = .ok (.iconst 5, 1) := by decide +kernel
theorem dX7_beginBefore_15 : decode cX7_beginBefore 15 = .ok (.if_icmp .ge 45, 3) := by decide +kernel
theorem dX7_beginBefore_18 : decode cX7_beginBefore 18 = .ok (.aload_n 0, 1) := by decide +kernel
theorem dX7_beginBefore_19 : decode cX7_beginBefore 19 = .ok (.iload_n 3, 1) := by decide +kernel
theorem dX7_beginBefore_20 : decode cX7_beginBefore 20 = .ok (.iload_n 3, 1) := by decide +kernel
theorem dX7_beginBefore_21 : decode cX7_beginBefore 21 = .ok (.aload_n 0, 1) := by decide +kernel
theorem dX7_beginBefore_22 : decode cX7_beginBefore 22 = .ok (.getfield 11, 3) := by decide +kernel
theorem dX7_beginBefore_25 : decode cX7_beginBefore 25 = .ok (.iload_n 2, 1) := by decide +kernel
theorem dX7_beginBefore_26 : decode cX7_beginBefore 26 = .ok (.iaload, 1) := by decide +kernel
theorem dX7_beginBefore_27 : decode cX7_beginBefore 27 = .ok (.iadd, 1) := by decide +kernel
theorem dX7_beginBefore_28 : decode cX7_beginBefore 28 = .ok (.invokevirtual 40, 3) := by decide +kernel
theorem dX7_beginBefore_31 : decode cX7_beginBefore 31 = .ok (.istore 5, 2) := by decide +kernel
theorem dX7_beginBefore_33 : decode cX7_beginBefore 33 = .ok (.iload 5, 2) := by decide +kernel
theorem dX7_beginBefore_35 : decode cX7_beginBefore 35 = .ok (.iconst (-1), 1) := by decide +kernel
theorem dX7_beginBefore_36 : decode cX7_beginBefore 36 = .ok (.if_icmp .eq 18, 3) := by decide +kernel
theorem dX7_beginBefore_39 : decode cX7_beginBefore 39 = .ok (.aload_n 0, 1) := by decide +kernel
theorem dX7_beginBefore_40 : decode cX7_beginBefore 40 = .ok (.getfield 15, 3) := by decide +kernel
theorem dX7_beginBefore_43 : decode cX7_beginBefore 43 = .ok (.iload 5, 2) := by decide +kernel
theorem dX7_beginBefore_45 : decode cX7_beginBefore 45 = .ok (.iaload, 1) := by decide +kernel
theorem dX7_beginBefore_46 : decode cX7_beginBefore 46 = .ok (.aload_n 0, 1) := by decide +kernel
theorem dX7_beginBefore_47 : decode cX7_beginBefore 47 = .ok (.getfield 11, 3) := by decide +kernel
theorem dX7_beginBefore_50 : decode cX7_beginBefore 50 = .ok (.iload_n 2, 1) := by decide +kernel
theorem dX7_beginBefore_51 : decode cX7_beginBefore 51 = .ok (.iaload, 1) := by decide +kernel
theorem dX7_beginBefore_52 : decode cX7_beginBefore 52 = .ok (.isub, 1) := by decide +kernel
theorem dX7_beginBefore_53 : decode cX7_beginBefore 53 = .ok (.istore_n 3, 1) := by decide +kernel
theorem dX7_beginBefore_54 : decode cX7_beginBefore 54 = .ok (.iinc 4 1, 3) := by decide +kernel
theorem dX7_beginBefore_57 : decode cX7_beginBefore 57 = .ok (.goto (-45), 3) := by decide +kernel
theorem dX7_beginBefore_60 : decode cX7_beginBefore 60 = .ok (.iload_n 3, 1) := by decide +kernel
theorem dX7_beginBefore_61 : decode cX7_beginBefore 61 = .ok (.ireturn, 1) := by decide +kernel
theorem dX7_lastOut_0 : decode cX7_lastOut 0 = .ok (.iconst 0, 1) := by decide +kernel
theorem dX7_lastOut_1 : decode cX7_lastOut 1 = .ok (.istore_n 2, 1) := by decide +kernel
theorem dX7_lastOut_2 : decode cX7_lastOut 2 = .ok (.iconst 0, 1) := by decide +kernel
theorem dX7_lastOut_3 : decode cX7_lastOut 3 = .ok (.istore_n 3, 1) := by decide +kernel
theorem dX7_lastOut_4 : decode cX7_lastOut 4 = .ok (.iconst 0, 1) := by decide +kernel
theorem dX7_lastOut_5 : decode cX7_lastOut 5 = .ok (.istore 4, 2) := by decide +kernel
theorem dX7_lastOut_7 : decode cX7_lastOut 7 = .ok (.iload 4, 2) := by decide +kernel
theorem dX7_lastOut_9 : decode cX7_lastOut 9 = .ok (.aload_n 1, 1) := by decide +kernel
theorem dX7_lastOut_10 : decode cX7_lastOut 10 = .ok (.getfield 47, 3) := by decide +kernel
theorem dX7_lastOut_13 : decode cX7_lastOut 13 = .ok (.if_icmp .ge 60, 3) := by decide +kernel
theorem dX7_lastOut_16 : decode cX7_lastOut 16 = .ok (.aload_n 1, 1) := by decide +kernel
theorem dX7_lastOut_17 : decode cX7_lastOut 17 = .ok (.iload 4, 2) := by decide +kernel
theorem dX7_lastOut_19 : decode cX7_lastOut 19 = .ok (.invokevirtual 52, 3) := by decide +kernel
theorem dX7_lastOut_22 : decode cX7_lastOut 22 = .ok (.bipush 48, 2) := by decide +kernel
theorem dX7_lastOut_24 : decode cX7_lastOut 24 = .ok (.isub, 1) := by decide +kernel
theorem dX7_lastOut_25 : decode cX7_lastOut 25 = .ok (.istore 5, 2) := by decide +kernel
theorem dX7_lastOut_27 : decode cX7_lastOut 27 = .ok (.iload 5, 2) := by decide +kernel
theorem dX7_lastOut_29 : decode cX7_lastOut 29 = .ok (.ifCond .lt 21, 3) := by decide +kernel
theorem dX7_lastOut_32 : decode cX7_lastOut 32 = .ok (.iload 5, 2) := by decide +kernel
theorem dX7_lastOut_34 : decode cX7_lastOut 34 = .ok (.aload_n 0, 1) := by decide +kernel
theorem dX7_lastOut_35 : decode cX7_lastOut 35 = .ok (.getfield 37, 3) := by decide +kernel
theorem dX7_lastOut_38 : decode cX7_lastOut 38 = .ok (.if_icmp .ge 12, 3) := by decide +kernel
theorem dX7_lastOut_41 : decode cX7_lastOut 41 = .ok (.iload_n 2, 1) := by decide +kernel
theorem dX7_lastOut_42 : decode cX7_lastOut 42 = .ok (.iload 5, 2) := by decide +kernel
theorem dX7_lastOut_44 : decode cX7_lastOut 44 = .ok (.ishr, 1) := by decide +kernel
theorem dX7_lastOut_45 : decode cX7_lastOut 45 = .ok (.iconst 1, 1) := by decide +kernel
theorem dX7_lastOut_46 : decode cX7_lastOut 46 = .ok (.iand, 1) := by decide +kernel
theorem dX7_lastOut_47 : decode cX7_lastOut 47 = .ok (.ifCond .eq 5, 3) := by decide +kernel
theorem dX7_lastOut_50 : decode cX7_lastOut 50 = .ok (.iconst (-1), 1) := by decide +kernel
theorem dX7_lastOut_51 : decode cX7_lastOut 51 = .ok (.ireturn, 1) := by decide +kernel
theorem dX7_lastOut_52 : decode cX7_lastOut 52 = .ok (.iload_n 2, 1) := by decide +kernel
theorem dX7_lastOut_53 : decode cX7_lastOut 53 = .ok (.iconst 1, 1) := by decide +kernel
theorem dX7_lastOut_54 : decode cX7_lastOut 54 = .ok (.iload 5, 2) := by decide +kernel
theorem dX7_lastOut_56 : decode cX7_lastOut 56 = .ok (.ishl, 1) := by decide +kernel
theorem dX7_lastOut_57 : decode cX7_lastOut 57 = .ok (.ior, 1) := by decide +kernel
theorem dX7_lastOut_58 : decode cX7_lastOut 58 = .ok (.istore_n 2, 1) := by decide +kernel
theorem dX7_lastOut_59 : decode cX7_lastOut 59 = .ok (.aload_n 0, 1) := by decide +kernel
theorem dX7_lastOut_60 : decode cX7_lastOut 60 = .ok (.iload_n 3, 1) := by decide +kernel
theorem dX7_lastOut_61 : decode cX7_lastOut 61 = .ok (.iload 5, 2) := by decide +kernel
theorem dX7_lastOut_63 : decode cX7_lastOut 63 = .ok (.invokevirtual 56, 3) := by decide +kernel
theorem dX7_lastOut_66 : decode cX7_lastOut 66 = .ok (.istore_n 3, 1) := by decide +kernel
theorem dX7_lastOut_67 : decode cX7_lastOut 67 = .ok (.iinc 4 1, 3) := by decide +kernel
theorem dX7_lastOut_70 : decode cX7_lastOut 70 = .ok (.goto (-63), 3) := by decide +kernel
theorem dX7_lastOut_73 : decode cX7_lastOut 73 = .ok (.iload_n 3, 1) := by decide +kernel
theorem dX7_lastOut_74 : decode cX7_lastOut 74 = .ok (.ireturn, 1) := by decide +kernel
theorem dX7_findBest_0 : decode cX7_findBest 0 = .ok (.aload_n 0, 1) := by decide +kernel
theorem dX7_findBest_1 : decode cX7_findBest 1 = .ok (.invokevirtual 59, 3) := by decide +kernel
theorem dX7_findBest_4 : decode cX7_findBest 4 = .ok (.iconst 0, 1) := by decide +kernel
theorem dX7_findBest_5 : decode cX7_findBest 5 = .ok (.istore_n 2, 1) := by decide +kernel
theorem dX7_findBest_6 : decode cX7_findBest 6 = .ok (.iconst 0, 1) := by decide +kernel
theorem dX7_findBest_7 : decode cX7_findBest 7 = .ok (.istore_n 3, 1) := by decide +kernel
theorem dX7_findBest_8 : decode cX7_findBest 8 = .ok (.iconst 1, 1) := by decide +kernel
theorem dX7_findBest_9 : decode cX7_findBest 9 = .ok (.istore 4, 2) := by decide +kernel
theorem dX7_findBest_11 : decode cX7_findBest 11 = .ok (.iload 4, 2) := by decide +kernel
theorem dX7_findBest_13 : decode cX7_findBest 13 = .ok (.iconst 1, 1) := by decide +kernel
theorem dX7_findBest_14 : decode cX7_findBest 14 = .ok (.aload_n 0, 1) := by decide +kernel
theorem dX7_findBest_15 : decode cX7_findBest 15 = .ok (.getfield 37, 3) := by decide +kernel
theorem dX7_findBest_18 : decode cX7_findBest 18 = .ok (.ishl, 1) := by decide +kernel
theorem dX7_findBest_19 : decode cX7_findBest 19 = .ok (.if_icmp .ge 73, 3) := by decide +kernel
theorem dX7_findBest_22 : decode cX7_findBest 22 = .ok (.iload 4, 2) := by decide +kernel
theorem dX7_findBest_24 : decode cX7_findBest 24 = .ok (.invokestatic 62, 3) := by decide +kernel
theorem dX7_findBest_27 : decode cX7_findBest 27 = .ok (.istore 5, 2) := by decide +kernel
theorem dX7_findBest_29 : decode cX7_findBest 29 = .ok (.iload 5, 2) := by decide +kernel
theorem dX7_findBest_31 : decode cX7_findBest 31 = .ok (.iload_n 2, 1) := by decide +kernel
theorem dX7_findBest_32 : decode cX7_findBest 32 = .ok (.if_icmp .gt 20, 3) := by decide +kernel
theorem dX7_findBest_35 : decode cX7_findBest 35 = .ok (.iload 5, 2) := by decide +kernel
theorem dX7_findBest_37 : decode cX7_findBest 37 = .ok (.iload_n 2, 1) := by decide +kernel
theorem dX7_findBest_38 : decode cX7_findBest 38 = .ok (.if_icmp .ne 18, 3) := by decide +kernel
theorem dX7_findBest_41 : decode cX7_findBest 41 = .ok (.aload_n 0, 1) := by decide +kernel
theorem dX7_findBest_42 : decode cX7_findBest 42 = .ok (.getfield 27, 3) := by decide +kernel
theorem dX7_findBest_45 : decode cX7_findBest 45 = .ok (.iload 4, 2) := by decide +kernel
theorem dX7_findBest_47 : decode cX7_findBest 47 = .ok (.iaload, 1) := by decide +kernel
theorem dX7_findBest_48 : decode cX7_findBest 48 = .ok (.iload_n 3, 1) := by decide +kernel
theorem dX7_findBest_49 : decode cX7_findBest 49 = .ok (.if_icmp .ge 7, 3) := by decide +kernel
theorem dX7_findBest_52 : decode cX7_findBest 52 = .ok (.iconst 1, 1) := by decide +kernel
theorem dX7_findBest_53 : decode cX7_findBest 53 = .ok (.goto 4, 3) := by decide +kernel
theorem dX7_findBest_56 : decode cX7_findBest 56 = .ok (.iconst 0, 1) := by decide +kernel
theorem dX7_findBest_57 : decode cX7_findBest 57 = .ok (.istore 6, 2) := by decide +kernel
theorem dX7_findBest_59 : decode cX7_findBest 59 = .ok (.aload_n 0, 1) := by decide +kernel
theorem dX7_findBest_60 : decode cX7_findBest 60 = .ok (.getfield 27, 3) := by decide +kernel
theorem dX7_findBest_63 : decode cX7_findBest 63 = .ok (.iload 4, 2) := by decide +kernel
theorem dX7_findBest_65 : decode cX7_findBest 65 = .ok (.iaload, 1) := by decide +kernel
theorem dX7_findBest_66 : decode cX7_findBest 66 = .ok (.iload_n 1, 1) := by decide +kernel
theorem dX7_findBest_67 : decode cX7_findBest 67 = .ok (.if_icmp .gt 19, 3) := by decide +kernel
theorem dX7_findBest_70 : decode cX7_findBest 70 = .ok (.iload 6, 2) := by decide +kernel
theorem dX7_findBest_72 : decode cX7_findBest 72 = .ok (.ifCond .eq 14, 3) := by decide +kernel
theorem dX7_findBest_75 : decode cX7_findBest 75 = .ok (.iload 5, 2) := by decide +kernel
theorem dX7_findBest_77 : decode cX7_findBest 77 = .ok (.istore_n 2, 1) := by decide +kernel
theorem dX7_findBest_78 : decode cX7_findBest 78 = .ok (.aload_n 0, 1) := by decide +kernel
theorem dX7_findBest_79 : decode cX7_findBest 79 = .ok (.getfield 27, 3) := by decide +kernel
theorem dX7_findBest_82 : decode cX7_findBest 82 = .ok (.iload 4, 2) := by decide +kernel
theorem dX7_findBest_84 : decode cX7_findBest 84 = .ok (.iaload, 1) := by decide +kernel
theorem dX7_findBest_85 : decode cX7_findBest 85 = .ok (.istore_n 3, 1) := by decide +kernel
theorem dX7_findBest_86 : decode cX7_findBest 86 = .ok (.iinc 4 1, 3) := by decide +kernel
theorem dX7_findBest_89 : decode cX7_findBest 89 = .ok (.goto (-78), 3) := by decide +kernel
theorem dX7_findBest_92 : decode cX7_findBest 92 = .ok (.aload_n 0, 1) := by decide +kernel
theorem dX7_findBest_93 : decode cX7_findBest 93 = .ok (.iload_n 3, 1) := by decide +kernel
theorem dX7_findBest_94 : decode cX7_findBest 94 = .ok (.invokevirtual 67, 3) := by decide +kernel
theorem dX7_findBest_97 : decode cX7_findBest 97 = .ok (.aload_n 0, 1) := by decide +kernel
theorem dX7_findBest_98 : decode cX7_findBest 98 = .ok (.iload_n 2, 1) := by decide +kernel
theorem dX7_findBest_99 : decode cX7_findBest 99 = .ok (.invokevirtual 71, 3) := by decide +kernel
theorem dX7_findBest_102 : decode cX7_findBest 102 = .ok (.iload_n 2, 1) := by decide +kernel
theorem dX7_findBest_103 : decode cX7_findBest 103 = .ok (.ireturn, 1) := by decide +kernel
theorem dX7_reckonEarliest_0 : decode cX7_reckonEarliest 0 = .ok (.aload_n 0, 1) := by decide +kernel
theorem dX7_reckonEarliest_1 : decode cX7_reckonEarliest 1 = .ok (.getfield 27, 3) := by decide +kernel
theorem dX7_reckonEarliest_4 : decode cX7_reckonEarliest 4 = .ok (.iconst 0, 1) := by decide +kernel
theorem dX7_reckonEarliest_5 : decode cX7_reckonEarliest 5 = .ok (.iconst 0, 1) := by decide +kernel
theorem dX7_reckonEarliest_6 : decode cX7_reckonEarliest 6 = .ok (.iastore, 1) := by decide +kernel
theorem dX7_reckonEarliest_7 : decode cX7_reckonEarliest 7 = .ok (.iconst 1, 1) := by decide +kernel
theorem dX7_reckonEarliest_8 : decode cX7_reckonEarliest 8 = .ok (.istore_n 1, 1) := by decide +kernel
theorem dX7_reckonEarliest_9 : decode cX7_reckonEarliest 9 = .ok (.iload_n 1, 1) := by decide +kernel
theorem dX7_reckonEarliest_10 : decode cX7_reckonEarliest 10 = .ok (.iconst 1, 1) := by decide +kernel
theorem dX7_reckonEarliest_11 : decode cX7_reckonEarliest 11 = .ok (.aload_n 0, 1) := by decide +kernel
theorem dX7_reckonEarliest_12 : decode cX7_reckonEarliest 12 = .ok (.getfield 37, 3) := by decide +kernel
theorem dX7_reckonEarliest_15 : decode cX7_reckonEarliest 15 = .ok (.ishl, 1) := by decide +kernel
theorem dX7_reckonEarliest_16 : decode cX7_reckonEarliest 16 = .ok (.if_icmp .ge 66, 3) := by decide +kernel
theorem dX7_reckonEarliest_19 : decode cX7_reckonEarliest 19 = .ok (.sipush 10000, 3) := by decide +kernel
theorem dX7_reckonEarliest_22 : decode cX7_reckonEarliest 22 = .ok (.istore_n 2, 1) := by decide +kernel
theorem dX7_reckonEarliest_23 : decode cX7_reckonEarliest 23 = .ok (.iconst 0, 1) := by decide +kernel
theorem dX7_reckonEarliest_24 : decode cX7_reckonEarliest 24 = .ok (.istore_n 3, 1) := by decide +kernel
theorem dX7_reckonEarliest_25 : decode cX7_reckonEarliest 25 = .ok (.iload_n 3, 1) := by decide +kernel
theorem dX7_reckonEarliest_26 : decode cX7_reckonEarliest 26 = .ok (.aload_n 0, 1) := by decide +kernel
theorem dX7_reckonEarliest_27 : decode cX7_reckonEarliest 27 = .ok (.getfield 37, 3) := by decide +kernel
theorem dX7_reckonEarliest_30 : decode cX7_reckonEarliest 30 = .ok (.if_icmp .ge 39, 3) := by decide +kernel
theorem dX7_reckonEarliest_33 : decode cX7_reckonEarliest 33 = .ok (.iload_n 1, 1) := by decide +kernel
theorem dX7_reckonEarliest_34 : decode cX7_reckonEarliest 34 = .ok (.iload_n 3, 1) := by decide +kernel
theorem dX7_reckonEarliest_35 : decode cX7_reckonEarliest 35 = .ok (.ishr, 1) := by decide +kernel
theorem dX7_reckonEarliest_36 : decode cX7_reckonEarliest 36 = .ok (.iconst 1, 1) := by decide +kernel
theorem dX7_reckonEarliest_37 : decode cX7_reckonEarliest 37 = .ok (.iand, 1) := by decide +kernel
theorem dX7_reckonEarliest_38 : decode cX7_reckonEarliest 38 = .ok (.ifCond .eq 25, 3) := by decide +kernel
theorem dX7_reckonEarliest_41 : decode cX7_reckonEarliest 41 = .ok (.iload_n 2, 1) := by decide +kernel
theorem dX7_reckonEarliest_42 : decode cX7_reckonEarliest 42 = .ok (.aload_n 0, 1) := by decide +kernel
theorem dX7_reckonEarliest_43 : decode cX7_reckonEarliest 43 = .ok (.aload_n 0, 1) := by decide +kernel
theorem dX7_reckonEarliest_44 : decode cX7_reckonEarliest 44 = .ok (.getfield 27, 3) := by decide +kernel
theorem dX7_reckonEarliest_47 : decode cX7_reckonEarliest 47 = .ok (.iload_n 1, 1) := by decide +kernel
theorem dX7_reckonEarliest_48 : decode cX7_reckonEarliest 48 = .ok (.iconst 1, 1) := by decide +kernel
theorem dX7_reckonEarliest_49 : decode cX7_reckonEarliest 49 = .ok (.iload_n 3, 1) := by decide +kernel
theorem dX7_reckonEarliest_50 : decode cX7_reckonEarliest 50 = .ok (.ishl, 1) := by decide +kernel
theorem dX7_reckonEarliest_51 : decode cX7_reckonEarliest 51 = .ok (.iconst (-1), 1) := by decide +kernel
theorem dX7_reckonEarliest_52 : decode cX7_reckonEarliest 52 = .ok (.ixor, 1) := by decide +kernel
theorem dX7_reckonEarliest_53 : decode cX7_reckonEarliest 53 = .ok (.iand, 1) := by decide +kernel
theorem dX7_reckonEarliest_54 : decode cX7_reckonEarliest 54 = .ok (.iaload, 1) := by decide +kernel
theorem dX7_reckonEarliest_55 : decode cX7_reckonEarliest 55 = .ok (.iload_n 3, 1) := by decide +kernel
theorem dX7_reckonEarliest_56 : decode cX7_reckonEarliest 56 = .ok (.invokevirtual 56, 3) := by decide +kernel
theorem dX7_reckonEarliest_59 : decode cX7_reckonEarliest 59 = .ok (.invokestatic 74, 3) := by decide +kernel
theorem dX7_reckonEarliest_62 : decode cX7_reckonEarliest 62 = .ok (.istore_n 2, 1) := by decide +kernel
theorem dX7_reckonEarliest_63 : decode cX7_reckonEarliest 63 = .ok (.iinc 3 1, 3) := by decide +kernel
theorem dX7_reckonEarliest_66 : decode cX7_reckonEarliest 66 = .ok (.goto (-41), 3) := by decide +kernel
theorem dX7_reckonEarliest_69 : decode cX7_reckonEarliest 69 = .ok (.aload_n 0, 1) := by decide +kernel
theorem dX7_reckonEarliest_70 : decode cX7_reckonEarliest 70 = .ok (.getfield 27, 3) := by decide +kernel
theorem dX7_reckonEarliest_73 : decode cX7_reckonEarliest 73 = .ok (.iload_n 1, 1) := by decide +kernel
theorem dX7_reckonEarliest_74 : decode cX7_reckonEarliest 74 = .ok (.iload_n 2, 1) := by decide +kernel
theorem dX7_reckonEarliest_75 : decode cX7_reckonEarliest 75 = .ok (.iastore, 1) := by decide +kernel
theorem dX7_reckonEarliest_76 : decode cX7_reckonEarliest 76 = .ok (.iinc 1 1, 3) := by decide +kernel
theorem dX7_reckonEarliest_79 : decode cX7_reckonEarliest 79 = .ok (.goto (-70), 3) := by decide +kernel
theorem dX7_reckonEarliest_82 : decode cX7_reckonEarliest 82 = .ok (.return_, 1) := by decide +kernel
theorem dX7_reckonLatest_0 : decode cX7_reckonLatest 0 = .ok (.aload_n 0, 1) := by decide +kernel
theorem dX7_reckonLatest_1 : decode cX7_reckonLatest 1 = .ok (.getfield 30, 3) := by decide +kernel
theorem dX7_reckonLatest_4 : decode cX7_reckonLatest 4 = .ok (.iconst 0, 1) := by decide +kernel
theorem dX7_reckonLatest_5 : decode cX7_reckonLatest 5 = .ok (.iload_n 1, 1) := by decide +kernel
theorem dX7_reckonLatest_6 : decode cX7_reckonLatest 6 = .ok (.iastore, 1) := by decide +kernel
theorem dX7_reckonLatest_7 : decode cX7_reckonLatest 7 = .ok (.iconst 1, 1) := by decide +kernel
theorem dX7_reckonLatest_8 : decode cX7_reckonLatest 8 = .ok (.istore_n 2, 1) := by decide +kernel
theorem dX7_reckonLatest_9 : decode cX7_reckonLatest 9 = .ok (.iload_n 2, 1) := by decide +kernel
theorem dX7_reckonLatest_10 : decode cX7_reckonLatest 10 = .ok (.iconst 1, 1) := by decide +kernel
theorem dX7_reckonLatest_11 : decode cX7_reckonLatest 11 = .ok (.aload_n 0, 1) := by decide +kernel
theorem dX7_reckonLatest_12 : decode cX7_reckonLatest 12 = .ok (.getfield 37, 3) := by decide +kernel
theorem dX7_reckonLatest_15 : decode cX7_reckonLatest 15 = .ok (.ishl, 1) := by decide +kernel
theorem dX7_reckonLatest_16 : decode cX7_reckonLatest 16 = .ok (.if_icmp .ge 69, 3) := by decide +kernel
theorem dX7_reckonLatest_19 : decode cX7_reckonLatest 19 = .ok (.iconst (-1), 1) := by decide +kernel
theorem dX7_reckonLatest_20 : decode cX7_reckonLatest 20 = .ok (.istore_n 3, 1) := by decide +kernel
theorem dX7_reckonLatest_21 : decode cX7_reckonLatest 21 = .ok (.iconst 0, 1) := by decide +kernel
theorem dX7_reckonLatest_22 : decode cX7_reckonLatest 22 = .ok (.istore 4, 2) := by decide +kernel
theorem dX7_reckonLatest_24 : decode cX7_reckonLatest 24 = .ok (.iload 4, 2) := by decide +kernel
theorem dX7_reckonLatest_26 : decode cX7_reckonLatest 26 = .ok (.aload_n 0, 1) := by decide +kernel
theorem dX7_reckonLatest_27 : decode cX7_reckonLatest 27 = .ok (.getfield 37, 3) := by decide +kernel
theorem dX7_reckonLatest_30 : decode cX7_reckonLatest 30 = .ok (.if_icmp .ge 42, 3) := by decide +kernel
theorem dX7_reckonLatest_33 : decode cX7_reckonLatest 33 = .ok (.iload_n 2, 1) := by decide +kernel
theorem dX7_reckonLatest_34 : decode cX7_reckonLatest 34 = .ok (.iload 4, 2) := by decide +kernel
theorem dX7_reckonLatest_36 : decode cX7_reckonLatest 36 = .ok (.ishr, 1) := by decide +kernel
theorem dX7_reckonLatest_37 : decode cX7_reckonLatest 37 = .ok (.iconst 1, 1) := by decide +kernel
theorem dX7_reckonLatest_38 : decode cX7_reckonLatest 38 = .ok (.iand, 1) := by decide +kernel
theorem dX7_reckonLatest_39 : decode cX7_reckonLatest 39 = .ok (.ifCond .eq 27, 3) := by decide +kernel
theorem dX7_reckonLatest_42 : decode cX7_reckonLatest 42 = .ok (.iload_n 3, 1) := by decide +kernel
theorem dX7_reckonLatest_43 : decode cX7_reckonLatest 43 = .ok (.aload_n 0, 1) := by decide +kernel
theorem dX7_reckonLatest_44 : decode cX7_reckonLatest 44 = .ok (.aload_n 0, 1) := by decide +kernel
theorem dX7_reckonLatest_45 : decode cX7_reckonLatest 45 = .ok (.getfield 30, 3) := by decide +kernel
theorem dX7_reckonLatest_48 : decode cX7_reckonLatest 48 = .ok (.iload_n 2, 1) := by decide +kernel
theorem dX7_reckonLatest_49 : decode cX7_reckonLatest 49 = .ok (.iconst 1, 1) := by decide +kernel
theorem dX7_reckonLatest_50 : decode cX7_reckonLatest 50 = .ok (.iload 4, 2) := by decide +kernel
theorem dX7_reckonLatest_52 : decode cX7_reckonLatest 52 = .ok (.ishl, 1) := by decide +kernel
theorem dX7_reckonLatest_53 : decode cX7_reckonLatest 53 = .ok (.iconst (-1), 1) := by decide +kernel
theorem dX7_reckonLatest_54 : decode cX7_reckonLatest 54 = .ok (.ixor, 1) := by decide +kernel
theorem dX7_reckonLatest_55 : decode cX7_reckonLatest 55 = .ok (.iand, 1) := by decide +kernel
theorem dX7_reckonLatest_56 : decode cX7_reckonLatest 56 = .ok (.iaload, 1) := by decide +kernel
theorem dX7_reckonLatest_57 : decode cX7_reckonLatest 57 = .ok (.iload 4, 2) := by decide +kernel
theorem dX7_reckonLatest_59 : decode cX7_reckonLatest 59 = .ok (.invokevirtual 79, 3) := by decide +kernel
theorem dX7_reckonLatest_62 : decode cX7_reckonLatest 62 = .ok (.invokestatic 82, 3) := by decide +kernel
theorem dX7_reckonLatest_65 : decode cX7_reckonLatest 65 = .ok (.istore_n 3, 1) := by decide +kernel
theorem dX7_reckonLatest_66 : decode cX7_reckonLatest 66 = .ok (.iinc 4 1, 3) := by decide +kernel
theorem dX7_reckonLatest_69 : decode cX7_reckonLatest 69 = .ok (.goto (-45), 3) := by decide +kernel
theorem dX7_reckonLatest_72 : decode cX7_reckonLatest 72 = .ok (.aload_n 0, 1) := by decide +kernel
theorem dX7_reckonLatest_73 : decode cX7_reckonLatest 73 = .ok (.getfield 30, 3) := by decide +kernel
theorem dX7_reckonLatest_76 : decode cX7_reckonLatest 76 = .ok (.iload_n 2, 1) := by decide +kernel
theorem dX7_reckonLatest_77 : decode cX7_reckonLatest 77 = .ok (.iload_n 3, 1) := by decide +kernel
theorem dX7_reckonLatest_78 : decode cX7_reckonLatest 78 = .ok (.iastore, 1) := by decide +kernel
theorem dX7_reckonLatest_79 : decode cX7_reckonLatest 79 = .ok (.iinc 2 1, 3) := by decide +kernel
theorem dX7_reckonLatest_82 : decode cX7_reckonLatest 82 = .ok (.goto (-73), 3) := by decide +kernel
theorem dX7_reckonLatest_85 : decode cX7_reckonLatest 85 = .ok (.return_, 1) := by decide +kernel
theorem dX7_fillRow_0 : decode cX7_fillRow 0 = .ok (.iconst 1, 1) := by decide +kernel
theorem dX7_fillRow_1 : decode cX7_fillRow 1 = .ok (.aload_n 0, 1) := by decide +kernel
theorem dX7_fillRow_2 : decode cX7_fillRow 2 = .ok (.getfield 37, 3) := by decide +kernel
theorem dX7_fillRow_5 : decode cX7_fillRow 5 = .ok (.ishl, 1) := by decide +kernel
theorem dX7_fillRow_6 : decode cX7_fillRow 6 = .ok (.iconst 1, 1) := by decide +kernel
theorem dX7_fillRow_7 : decode cX7_fillRow 7 = .ok (.isub, 1) := by decide +kernel
theorem dX7_fillRow_8 : decode cX7_fillRow 8 = .ok (.istore_n 2, 1) := by decide +kernel
theorem dX7_fillRow_9 : decode cX7_fillRow 9 = .ok (.iconst 0, 1) := by decide +kernel
theorem dX7_fillRow_10 : decode cX7_fillRow 10 = .ok (.istore_n 3, 1) := by decide +kernel
theorem dX7_fillRow_11 : decode cX7_fillRow 11 = .ok (.aload_n 0, 1) := by decide +kernel
theorem dX7_fillRow_12 : decode cX7_fillRow 12 = .ok (.iload_n 1, 1) := by decide +kernel
theorem dX7_fillRow_13 : decode cX7_fillRow 13 = .ok (.putfield 33, 3) := by decide +kernel
theorem dX7_fillRow_16 : decode cX7_fillRow 16 = .ok (.iconst 0, 1) := by decide +kernel
theorem dX7_fillRow_17 : decode cX7_fillRow 17 = .ok (.istore 4, 2) := by decide +kernel
theorem dX7_fillRow_19 : decode cX7_fillRow 19 = .ok (.iload 4, 2) := by decide +kernel
theorem dX7_fillRow_21 : decode cX7_fillRow 21 = .ok (.iload_n 1, 1) := by decide +kernel
theorem dX7_fillRow_22 : decode cX7_fillRow 22 = .ok (.if_icmp .ge 68, 3) := by decide +kernel
theorem dX7_fillRow_25 : decode cX7_fillRow 25 = .ok (.iload 4, 2) := by decide +kernel
theorem dX7_fillRow_27 : decode cX7_fillRow 27 = .ok (.bipush 8, 2) := by decide +kernel
theorem dX7_fillRow_29 : decode cX7_fillRow 29 = .ok (.if_icmp .ge 61, 3) := by decide +kernel
theorem dX7_fillRow_32 : decode cX7_fillRow 32 = .ok (.iconst 0, 1) := by decide +kernel
theorem dX7_fillRow_33 : decode cX7_fillRow 33 = .ok (.aload_n 0, 1) := by decide +kernel
theorem dX7_fillRow_34 : decode cX7_fillRow 34 = .ok (.iload_n 2, 1) := by decide +kernel
theorem dX7_fillRow_35 : decode cX7_fillRow 35 = .ok (.iload_n 3, 1) := by decide +kernel
theorem dX7_fillRow_36 : decode cX7_fillRow 36 = .ok (.iload_n 1, 1) := by decide +kernel
theorem dX7_fillRow_37 : decode cX7_fillRow 37 = .ok (.iload 4, 2) := by decide +kernel
theorem dX7_fillRow_39 : decode cX7_fillRow 39 = .ok (.isub, 1) := by decide +kernel
theorem dX7_fillRow_40 : decode cX7_fillRow 40 = .ok (.iconst 1, 1) := by decide +kernel
theorem dX7_fillRow_41 : decode cX7_fillRow 41 = .ok (.isub, 1) := by decide +kernel
theorem dX7_fillRow_42 : decode cX7_fillRow 42 = .ok (.invokevirtual 85, 3) := by decide +kernel
theorem dX7_fillRow_45 : decode cX7_fillRow 45 = .ok (.invokestatic 82, 3) := by decide +kernel
theorem dX7_fillRow_48 : decode cX7_fillRow 48 = .ok (.istore 5, 2) := by decide +kernel
theorem dX7_fillRow_50 : decode cX7_fillRow 50 = .ok (.aload_n 0, 1) := by decide +kernel
theorem dX7_fillRow_51 : decode cX7_fillRow 51 = .ok (.iload_n 3, 1) := by decide +kernel
theorem dX7_fillRow_52 : decode cX7_fillRow 52 = .ok (.iload 5, 2) := by decide +kernel
theorem dX7_fillRow_54 : decode cX7_fillRow 54 = .ok (.invokevirtual 56, 3) := by decide +kernel
theorem dX7_fillRow_57 : decode cX7_fillRow 57 = .ok (.istore_n 3, 1) := by decide +kernel
theorem dX7_fillRow_58 : decode cX7_fillRow 58 = .ok (.iload_n 2, 1) := by decide +kernel
theorem dX7_fillRow_59 : decode cX7_fillRow 59 = .ok (.iconst 1, 1) := by decide +kernel
theorem dX7_fillRow_60 : decode cX7_fillRow 60 = .ok (.iload 5, 2) := by decide +kernel
theorem dX7_fillRow_62 : decode cX7_fillRow 62 = .ok (.ishl, 1) := by decide +kernel
theorem dX7_fillRow_63 : decode cX7_fillRow 63 = .ok (.iconst (-1), 1) := by decide +kernel
theorem dX7_fillRow_64 : decode cX7_fillRow 64 = .ok (.ixor, 1) := by decide +kernel
theorem dX7_fillRow_65 : decode cX7_fillRow 65 = .ok (.iand, 1) := by decide +kernel
theorem dX7_fillRow_66 : decode cX7_fillRow 66 = .ok (.istore_n 2, 1) := by decide +kernel
theorem dX7_fillRow_67 : decode cX7_fillRow 67 = .ok (.aload_n 0, 1) := by decide +kernel
theorem dX7_fillRow_68 : decode cX7_fillRow 68 = .ok (.getfield 21, 3) := by decide +kernel
theorem dX7_fillRow_71 : decode cX7_fillRow 71 = .ok (.iload 4, 2) := by decide +kernel
theorem dX7_fillRow_73 : decode cX7_fillRow 73 = .ok (.iload 5, 2) := by decide +kernel
theorem dX7_fillRow_75 : decode cX7_fillRow 75 = .ok (.iastore, 1) := by decide +kernel
theorem dX7_fillRow_76 : decode cX7_fillRow 76 = .ok (.aload_n 0, 1) := by decide +kernel
theorem dX7_fillRow_77 : decode cX7_fillRow 77 = .ok (.getfield 24, 3) := by decide +kernel
theorem dX7_fillRow_80 : decode cX7_fillRow 80 = .ok (.iload 4, 2) := by decide +kernel
theorem dX7_fillRow_82 : decode cX7_fillRow 82 = .ok (.iload_n 3, 1) := by decide +kernel
theorem dX7_fillRow_83 : decode cX7_fillRow 83 = .ok (.iastore, 1) := by decide +kernel
theorem dX7_fillRow_84 : decode cX7_fillRow 84 = .ok (.iinc 4 1, 3) := by decide +kernel
theorem dX7_fillRow_87 : decode cX7_fillRow 87 = .ok (.goto (-68), 3) := by decide +kernel
theorem dX7_fillRow_90 : decode cX7_fillRow 90 = .ok (.return_, 1) := by decide +kernel
theorem dX7_leastNext_0 : decode cX7_leastNext 0 = .ok (.iconst 0, 1) := by decide +kernel
theorem dX7_leastNext_1 : decode cX7_leastNext 1 = .ok (.istore 4, 2) := by decide +kernel
theorem dX7_leastNext_3 : decode cX7_leastNext 3 = .ok (.iload 4, 2) := by decide +kernel
theorem dX7_leastNext_5 : decode cX7_leastNext 5 = .ok (.aload_n 0, 1) := by decide +kernel
theorem dX7_leastNext_6 : decode cX7_leastNext 6 = .ok (.getfield 37, 3) := by decide +kernel
theorem dX7_leastNext_9 : decode cX7_leastNext 9 = .ok (.if_icmp .ge 44, 3) := by decide +kernel
theorem dX7_leastNext_12 : decode cX7_leastNext 12 = .ok (.iload_n 1, 1) := by decide +kernel
theorem dX7_leastNext_13 : decode cX7_leastNext 13 = .ok (.iload 4, 2) := by decide +kernel
theorem dX7_leastNext_15 : decode cX7_leastNext 15 = .ok (.ishr, 1) := by decide +kernel
theorem dX7_leastNext_16 : decode cX7_leastNext 16 = .ok (.iconst 1, 1) := by decide +kernel
theorem dX7_leastNext_17 : decode cX7_leastNext 17 = .ok (.iand, 1) := by decide +kernel
theorem dX7_leastNext_18 : decode cX7_leastNext 18 = .ok (.ifCond .eq 29, 3) := by decide +kernel
theorem dX7_leastNext_21 : decode cX7_leastNext 21 = .ok (.aload_n 0, 1) := by decide +kernel
theorem dX7_leastNext_22 : decode cX7_leastNext 22 = .ok (.iload_n 1, 1) := by decide +kernel
theorem dX7_leastNext_23 : decode cX7_leastNext 23 = .ok (.iconst 1, 1) := by decide +kernel
theorem dX7_leastNext_24 : decode cX7_leastNext 24 = .ok (.iload 4, 2) := by decide +kernel
theorem dX7_leastNext_26 : decode cX7_leastNext 26 = .ok (.ishl, 1) := by decide +kernel
theorem dX7_leastNext_27 : decode cX7_leastNext 27 = .ok (.iconst (-1), 1) := by decide +kernel
theorem dX7_leastNext_28 : decode cX7_leastNext 28 = .ok (.ixor, 1) := by decide +kernel
theorem dX7_leastNext_29 : decode cX7_leastNext 29 = .ok (.iand, 1) := by decide +kernel
theorem dX7_leastNext_30 : decode cX7_leastNext 30 = .ok (.iload_n 3, 1) := by decide +kernel
theorem dX7_leastNext_31 : decode cX7_leastNext 31 = .ok (.aload_n 0, 1) := by decide +kernel
theorem dX7_leastNext_32 : decode cX7_leastNext 32 = .ok (.iload_n 2, 1) := by decide +kernel
theorem dX7_leastNext_33 : decode cX7_leastNext 33 = .ok (.iload 4, 2) := by decide +kernel
theorem dX7_leastNext_35 : decode cX7_leastNext 35 = .ok (.invokevirtual 56, 3) := by decide +kernel
theorem dX7_leastNext_38 : decode cX7_leastNext 38 = .ok (.invokevirtual 89, 3) := by decide +kernel
theorem dX7_leastNext_41 : decode cX7_leastNext 41 = .ok (.ifCond .eq 6, 3) := by decide +kernel
theorem dX7_leastNext_44 : decode cX7_leastNext 44 = .ok (.iload 4, 2) := by decide +kernel
theorem dX7_leastNext_46 : decode cX7_leastNext 46 = .ok (.ireturn, 1) := by decide +kernel
theorem dX7_leastNext_47 : decode cX7_leastNext 47 = .ok (.iinc 4 1, 3) := by decide +kernel
theorem dX7_leastNext_50 : decode cX7_leastNext 50 = .ok (.goto (-47), 3) := by decide +kernel
theorem dX7_leastNext_53 : decode cX7_leastNext 53 = .ok (.iconst (-1), 1) := by decide +kernel
theorem dX7_leastNext_54 : decode cX7_leastNext 54 = .ok (.ireturn, 1) := by decide +kernel
theorem dX7_canFollow_0 : decode cX7_canFollow 0 = .ok (.iconst 0, 1) := by decide +kernel
theorem dX7_canFollow_1 : decode cX7_canFollow 1 = .ok (.istore 4, 2) := by decide +kernel
theorem dX7_canFollow_3 : decode cX7_canFollow 3 = .ok (.iload 4, 2) := by decide +kernel
theorem dX7_canFollow_5 : decode cX7_canFollow 5 = .ok (.iconst 1, 1) := by decide +kernel
theorem dX7_canFollow_6 : decode cX7_canFollow 6 = .ok (.aload_n 0, 1) := by decide +kernel
theorem dX7_canFollow_7 : decode cX7_canFollow 7 = .ok (.getfield 37, 3) := by decide +kernel
theorem dX7_canFollow_10 : decode cX7_canFollow 10 = .ok (.ishl, 1) := by decide +kernel
theorem dX7_canFollow_11 : decode cX7_canFollow 11 = .ok (.if_icmp .ge 40, 3) := by decide +kernel
theorem dX7_canFollow_14 : decode cX7_canFollow 14 = .ok (.iload 4, 2) := by decide +kernel
theorem dX7_canFollow_16 : decode cX7_canFollow 16 = .ok (.iload_n 1, 1) := by decide +kernel
theorem dX7_canFollow_17 : decode cX7_canFollow 17 = .ok (.iconst (-1), 1) := by decide +kernel
theorem dX7_canFollow_18 : decode cX7_canFollow 18 = .ok (.ixor, 1) := by decide +kernel
theorem dX7_canFollow_19 : decode cX7_canFollow 19 = .ok (.iand, 1) := by decide +kernel
theorem dX7_canFollow_20 : decode cX7_canFollow 20 = .ok (.ifCond .ne 25, 3) := by decide +kernel
theorem dX7_canFollow_23 : decode cX7_canFollow 23 = .ok (.iload 4, 2) := by decide +kernel
theorem dX7_canFollow_25 : decode cX7_canFollow 25 = .ok (.invokestatic 62, 3) := by decide +kernel
theorem dX7_canFollow_28 : decode cX7_canFollow 28 = .ok (.iload_n 2, 1) := by decide +kernel
theorem dX7_canFollow_29 : decode cX7_canFollow 29 = .ok (.if_icmp .ne 16, 3) := by decide +kernel
theorem dX7_canFollow_32 : decode cX7_canFollow 32 = .ok (.aload_n 0, 1) := by decide +kernel
theorem dX7_canFollow_33 : decode cX7_canFollow 33 = .ok (.getfield 30, 3) := by decide +kernel
theorem dX7_canFollow_36 : decode cX7_canFollow 36 = .ok (.iload 4, 2) := by decide +kernel
theorem dX7_canFollow_38 : decode cX7_canFollow 38 = .ok (.iaload, 1) := by decide +kernel
theorem dX7_canFollow_39 : decode cX7_canFollow 39 = .ok (.iload_n 3, 1) := by decide +kernel
theorem dX7_canFollow_40 : decode cX7_canFollow 40 = .ok (.if_icmp .lt 5, 3) := by decide +kernel
theorem dX7_canFollow_43 : decode cX7_canFollow 43 = .ok (.iconst 1, 1) := by decide +kernel
theorem dX7_canFollow_44 : decode cX7_canFollow 44 = .ok (.ireturn, 1) := by decide +kernel
theorem dX7_canFollow_45 : decode cX7_canFollow 45 = .ok (.iinc 4 1, 3) := by decide +kernel
theorem dX7_canFollow_48 : decode cX7_canFollow 48 = .ok (.goto (-45), 3) := by decide +kernel
theorem dX7_canFollow_51 : decode cX7_canFollow 51 = .ok (.iconst 0, 1) := by decide +kernel
theorem dX7_canFollow_52 : decode cX7_canFollow 52 = .ok (.ireturn, 1) := by decide +kernel
theorem dX8_init_0 : decode cX8_init 0 = .ok (.aload_n 0, 1) := by decide +kernel
theorem dX8_init_1 : decode cX8_init 1 = .ok (.invokespecial 3, 3) := by decide +kernel
theorem dX8_init_4 : decode cX8_init 4 = .ok (.aload_n 0, 1) := by decide +kernel
theorem dX8_init_5 : decode cX8_init 5 = .ok (.getstatic 9, 3) := by decide +kernel
theorem dX8_init_8 : decode cX8_init 8 = .ok (.arraylength, 1) := by decide +kernel
theorem dX8_init_9 : decode cX8_init 9 = .ok (.newarray .long, 2) := by decide +kernel
theorem dX8_init_11 : decode cX8_init 11 = .ok (.putfield 15, 3) := by decide +kernel
theorem dX8_init_14 : decode cX8_init 14 = .ok (.aload_n 0, 1) := by decide +kernel
theorem dX8_init_15 : decode cX8_init 15 = .ok (.iconst 3, 1) := by decide +kernel
theorem dX8_init_16 : decode cX8_init 16 = .ok (.newarray .int, 2) := by decide +kernel
theorem dX8_init_18 : decode cX8_init 18 = .ok (.putfield 19, 3) := by decide +kernel
theorem dX8_init_21 : decode cX8_init 21 = .ok (.aload_n 0, 1) := by decide +kernel
theorem dX8_init_22 : decode cX8_init 22 = .ok (.iconst (-1), 1) := by decide +kernel
theorem dX8_init_23 : decode cX8_init 23 = .ok (.putfield 22, 3) := by decide +kernel
theorem dX8_init_26 : decode cX8_init 26 = .ok (.aload_n 0, 1) := by decide +kernel
theorem dX8_init_27 : decode cX8_init 27 = .ok (.aload_n 1, 1) := by decide +kernel
theorem dX8_init_28 : decode cX8_init 28 = .ok (.putfield 26, 3) := by decide +kernel
theorem dX8_init_31 : decode cX8_init 31 = .ok (.aload_n 0, 1) := by decide +kernel
theorem dX8_init_32 : decode cX8_init 32 = .ok (.aload_n 2, 1) := by decide +kernel
theorem dX8_init_33 : decode cX8_init 33 = .ok (.putfield 30, 3) := by decide +kernel
theorem dX8_init_36 : decode cX8_init 36 = .ok (.iconst 0, 1) := by decide +kernel
theorem dX8_init_37 : decode cX8_init 37 = .ok (.istore_n 3, 1) := by decide +kernel
theorem dX8_init_38 : decode cX8_init 38 = .ok (.iload_n 3, 1) := by decide +kernel
theorem dX8_init_39 : decode cX8_init 39 = .ok (.aload_n 0, 1) := by decide +kernel
theorem dX8_init_40 : decode cX8_init 40 = .ok (.getfield 15, 3) := by decide +kernel
theorem dX8_init_43 : decode cX8_init 43 = .ok (.arraylength, 1) := by decide +kernel
theorem dX8_init_44 : decode cX8_init 44 = .ok (.if_icmp .ge 22, 3) := by decide +kernel
theorem dX8_init_47 : decode cX8_init 47 = .ok (.aload_n 0, 1) := by decide +kernel
theorem dX8_init_48 : decode cX8_init 48 = .ok (.getfield 15, 3) := by decide +kernel
theorem dX8_init_51 : decode cX8_init 51 = .ok (.iload_n 3, 1) := by decide +kernel
theorem dX8_init_52 : decode cX8_init 52 = .ok (.iload_n 3, 1) := by decide +kernel
theorem dX8_init_53 : decode cX8_init 53 = .ok (.bipush 8, 2) := by decide +kernel
theorem dX8_init_55 : decode cX8_init 55 = .ok (.imul, 1) := by decide +kernel
theorem dX8_init_56 : decode cX8_init 56 = .ok (.invokestatic 34, 3) := by decide +kernel
theorem dX8_init_59 : decode cX8_init 59 = .ok (.lastore, 1) := by decide +kernel
theorem dX8_init_60 : decode cX8_init 60 = .ok (.iinc 3 1, 3) := by decide +kernel
theorem dX8_init_63 : decode cX8_init 63 = .ok (.goto (-25), 3) := by decide +kernel
theorem dX8_init_66 : decode cX8_init 66 = .ok (.return_, 1) := by decide +kernel
theorem dX8_keywordCode_0 : decode cX8_keywordCode 0 = .ok (.lconst 0, 1) := by decide +kernel
theorem dX8_keywordCode_1 : decode cX8_keywordCode 1 = .ok (.lstore_n 1, 1) := by decide +kernel
theorem dX8_keywordCode_2 : decode cX8_keywordCode 2 = .ok (.iload_n 0, 1) := by decide +kernel
theorem dX8_keywordCode_3 : decode cX8_keywordCode 3 = .ok (.istore_n 3, 1) := by decide +kernel
theorem dX8_keywordCode_4 : decode cX8_keywordCode 4 = .ok (.iload_n 3, 1) := by decide +kernel
theorem dX8_keywordCode_5 : decode cX8_keywordCode 5 = .ok (.iload_n 0, 1) := by decide +kernel
theorem dX8_keywordCode_6 : decode cX8_keywordCode 6 = .ok (.bipush 8, 2) := by decide +kernel
theorem dX8_keywordCode_8 : decode cX8_keywordCode 8 = .ok (.iadd, 1) := by decide +kernel
theorem dX8_keywordCode_9 : decode cX8_keywordCode 9 = .ok (.if_icmp .ge 41, 3) := by decide +kernel
theorem dX8_keywordCode_12 : decode cX8_keywordCode 12 = .ok (.iload_n 3, 1) := by decide +kernel
theorem dX8_keywordCode_13 : decode cX8_keywordCode 13 = .ok (.ldc 38, 2) := by decide +kernel
theorem dX8_keywordCode_15 : decode cX8_keywordCode 15 = .ok (.invokevirtual 40, 3) := by decide +kernel
theorem dX8_keywordCode_18 : decode cX8_keywordCode 18 = .ok (.if_icmp .ge 32, 3) := by decide +kernel
theorem dX8_keywordCode_21 : decode cX8_keywordCode 21 = .ok (.ldc 38, 2) := by decide +kernel
theorem dX8_keywordCode_23 : decode cX8_keywordCode 23 = .ok (.iload_n 3, 1) := by decide +kernel
theorem dX8_keywordCode_24 : decode cX8_keywordCode 24 = .ok (.invokevirtual 46, 3) := by decide +kernel
theorem dX8_keywordCode_27 : decode cX8_keywordCode 27 = .ok (.invokestatic 50, 3) := by decide +kernel
theorem dX8_keywordCode_30 : decode cX8_keywordCode 30 = .ok (.ifCond .eq 14, 3) := by decide +kernel
theorem dX8_keywordCode_33 : decode cX8_keywordCode 33 = .ok (.lload_n 1, 1) := by decide +kernel
theorem dX8_keywordCode_34 : decode cX8_keywordCode 34 = .ok (.ldc 38, 2) := by decide +kernel
theorem dX8_keywordCode_36 : decode cX8_keywordCode 36 = .ok (.iload_n 3, 1) := by decide +kernel
theorem dX8_keywordCode_37 : decode cX8_keywordCode 37 = .ok (.invokevirtual 46, 3) := by decide +kernel
theorem dX8_keywordCode_40 : decode cX8_keywordCode 40 = .ok (.invokestatic 54, 3) := by decide +kernel
theorem dX8_keywordCode_43 : decode cX8_keywordCode 43 = .ok (.lstore_n 1, 1) := by decide +kernel
theorem dX8_keywordCode_44 : decode cX8_keywordCode 44 = .ok (.iinc 3 1, 3) := by decide +kernel
theorem dX8_keywordCode_47 : decode cX8_keywordCode 47 = .ok (.goto (-43), 3) := by decide +kernel
theorem dX8_keywordCode_50 : decode cX8_keywordCode 50 = .ok (.lload_n 1, 1) := by decide +kernel
theorem dX8_keywordCode_51 : decode cX8_keywordCode 51 = .ok (.lreturn, 1) := by decide +kernel
theorem dX8_withLetter_0 : decode cX8_withLetter 0 = .ok (.lload_n 0, 1) := by decide +kernel
theorem dX8_withLetter_1 : decode cX8_withLetter 1 = .ok (.ldc2_w 58, 3) := by decide +kernel
theorem dX8_withLetter_4 : decode cX8_withLetter 4 = .ok (.lmul, 1) := by decide +kernel
theorem dX8_withLetter_5 : decode cX8_withLetter 5 = .ok (.iload_n 2, 1) := by decide +kernel
theorem dX8_withLetter_6 : decode cX8_withLetter 6 = .ok (.bipush 97, 2) := by decide +kernel
theorem dX8_withLetter_8 : decode cX8_withLetter 8 = .ok (.isub, 1) := by decide +kernel
theorem dX8_withLetter_9 : decode cX8_withLetter 9 = .ok (.iconst 1, 1) := by decide +kernel
theorem dX8_withLetter_10 : decode cX8_withLetter 10 = .ok (.iadd, 1) := by decide +kernel
theorem dX8_withLetter_11 : decode cX8_withLetter 11 = .ok (.i2l, 1) := by decide +kernel
theorem dX8_withLetter_12 : decode cX8_withLetter 12 = .ok (.ladd, 1) := by decide +kernel
theorem dX8_withLetter_13 : decode cX8_withLetter 13 = .ok (.lreturn, 1) := by decide +kernel
theorem dX8_isLetter_0 : decode cX8_isLetter 0 = .ok (.iload_n 0, 1) := by decide +kernel
theorem dX8_isLetter_1 : decode cX8_isLetter 1 = .ok (.bipush 97, 2) := by decide +kernel
theorem dX8_isLetter_3 : decode cX8_isLetter 3 = .ok (.if_icmp .lt 13, 3) := by decide +kernel
theorem dX8_isLetter_6 : decode cX8_isLetter 6 = .ok (.iload_n 0, 1) := by decide +kernel
theorem dX8_isLetter_7 : decode cX8_isLetter 7 = .ok (.bipush 122, 2) := by decide +kernel
theorem dX8_isLetter_9 : decode cX8_isLetter 9 = .ok (.if_icmp .gt 7, 3) := by decide +kernel
theorem dX8_isLetter_12 : decode cX8_isLetter 12 = .ok (.iconst 1, 1) := by decide +kernel
theorem dX8_isLetter_13 : decode cX8_isLetter 13 = .ok (.goto 4, 3) := by decide +kernel
theorem dX8_isLetter_16 : decode cX8_isLetter 16 = .ok (.iconst 0, 1) := by decide +kernel
theorem dX8_isLetter_17 : decode cX8_isLetter 17 = .ok (.ireturn, 1) := by decide +kernel
theorem dX8_isDigit_0 : decode cX8_isDigit 0 = .ok (.iload_n 0, 1) := by decide +kernel
theorem dX8_isDigit_1 : decode cX8_isDigit 1 = .ok (.bipush 48, 2) := by decide +kernel
theorem dX8_isDigit_3 : decode cX8_isDigit 3 = .ok (.if_icmp .lt 13, 3) := by decide +kernel
theorem dX8_isDigit_6 : decode cX8_isDigit 6 = .ok (.iload_n 0, 1) := by decide +kernel
theorem dX8_isDigit_7 : decode cX8_isDigit 7 = .ok (.bipush 57, 2) := by decide +kernel
theorem dX8_isDigit_9 : decode cX8_isDigit 9 = .ok (.if_icmp .gt 7, 3) := by decide +kernel
theorem dX8_isDigit_12 : decode cX8_isDigit 12 = .ok (.iconst 1, 1) := by decide +kernel
theorem dX8_isDigit_13 : decode cX8_isDigit 13 = .ok (.goto 4, 3) := by decide +kernel
theorem dX8_isDigit_16 : decode cX8_isDigit 16 = .ok (.iconst 0, 1) := by decide +kernel
theorem dX8_isDigit_17 : decode cX8_isDigit 17 = .ok (.ireturn, 1) := by decide +kernel
theorem dX8_readCamp_0 : decode cX8_readCamp 0 = .ok (.aload_n 0, 1) := by decide +kernel
theorem dX8_readCamp_1 : decode cX8_readCamp 1 = .ok (.aload_n 1, 1) := by decide +kernel
theorem dX8_readCamp_2 : decode cX8_readCamp 2 = .ok (.putfield 30, 3) := by decide +kernel
theorem dX8_readCamp_5 : decode cX8_readCamp 5 = .ok (.aload_n 0, 1) := by decide +kernel
theorem dX8_readCamp_6 : decode cX8_readCamp 6 = .ok (.getfield 30, 3) := by decide +kernel
theorem dX8_readCamp_9 : decode cX8_readCamp 9 = .ok (.invokevirtual 60, 3) := by decide +kernel
theorem dX8_readCamp_12 : decode cX8_readCamp 12 = .ok (.aload_n 0, 1) := by decide +kernel
theorem dX8_readCamp_13 : decode cX8_readCamp 13 = .ok (.iconst 0, 1) := by decide +kernel
theorem dX8_readCamp_14 : decode cX8_readCamp 14 = .ok (.putfield 65, 3) := by decide +kernel
theorem dX8_readCamp_17 : decode cX8_readCamp 17 = .ok (.aload_n 0, 1) := by decide +kernel
theorem dX8_readCamp_18 : decode cX8_readCamp 18 = .ok (.iconst 0, 1) := by decide +kernel
theorem dX8_readCamp_19 : decode cX8_readCamp 19 = .ok (.putfield 68, 3) := by decide +kernel
theorem dX8_readCamp_22 : decode cX8_readCamp 22 = .ok (.aload_n 0, 1) := by decide +kernel
theorem dX8_readCamp_23 : decode cX8_readCamp 23 = .ok (.iconst 0, 1) := by decide +kernel
theorem dX8_readCamp_24 : decode cX8_readCamp 24 = .ok (.putfield 71, 3) := by decide +kernel
theorem dX8_readCamp_27 : decode cX8_readCamp 27 = .ok (.aload_n 0, 1) := by decide +kernel
theorem dX8_readCamp_28 : decode cX8_readCamp 28 = .ok (.iconst 0, 1) := by decide +kernel
theorem dX8_readCamp_29 : decode cX8_readCamp 29 = .ok (.putfield 74, 3) := by decide +kernel
theorem dX8_readCamp_32 : decode cX8_readCamp 32 = .ok (.aload_n 0, 1) := by decide +kernel
theorem dX8_readCamp_33 : decode cX8_readCamp 33 = .ok (.iconst (-1), 1) := by decide +kernel
theorem dX8_readCamp_34 : decode cX8_readCamp 34 = .ok (.putfield 22, 3) := by decide +kernel
theorem dX8_readCamp_37 : decode cX8_readCamp 37 = .ok (.iconst 0, 1) := by decide +kernel
theorem dX8_readCamp_38 : decode cX8_readCamp 38 = .ok (.istore_n 2, 1) := by decide +kernel
theorem dX8_readCamp_39 : decode cX8_readCamp 39 = .ok (.iload_n 2, 1) := by decide +kernel
theorem dX8_readCamp_40 : decode cX8_readCamp 40 = .ok (.sipush 900, 3) := by decide +kernel
theorem dX8_readCamp_43 : decode cX8_readCamp 43 = .ok (.if_icmp .gt 54, 3) := by decide +kernel
theorem dX8_readCamp_46 : decode cX8_readCamp 46 = .ok (.aload_n 0, 1) := by decide +kernel
theorem dX8_readCamp_47 : decode cX8_readCamp 47 = .ok (.invokevirtual 77, 3) := by decide +kernel
theorem dX8_readCamp_50 : decode cX8_readCamp 50 = .ok (.aload_n 0, 1) := by decide +kernel
theorem dX8_readCamp_51 : decode cX8_readCamp 51 = .ok (.getfield 80, 3) := by decide +kernel
theorem dX8_readCamp_54 : decode cX8_readCamp 54 = .ok (.iconst 4, 1) := by decide +kernel
theorem dX8_readCamp_55 : decode cX8_readCamp 55 = .ok (.if_icmp .ne 12, 3) := by decide +kernel
theorem dX8_readCamp_58 : decode cX8_readCamp 58 = .ok (.aload_n 0, 1) := by decide +kernel
theorem dX8_readCamp_59 : decode cX8_readCamp 59 = .ok (.getfield 68, 3) := by decide +kernel
theorem dX8_readCamp_62 : decode cX8_readCamp 62 = .ok (.ifCond .ne 5, 3) := by decide +kernel
theorem dX8_readCamp_65 : decode cX8_readCamp 65 = .ok (.iconst 1, 1) := by decide +kernel
theorem dX8_readCamp_66 : decode cX8_readCamp 66 = .ok (.ireturn, 1) := by decide +kernel
theorem dX8_readCamp_67 : decode cX8_readCamp 67 = .ok (.aload_n 0, 1) := by decide +kernel
theorem dX8_readCamp_68 : decode cX8_readCamp 68 = .ok (.invokevirtual 83, 3) := by decide +kernel
theorem dX8_readCamp_71 : decode cX8_readCamp 71 = .ok (.istore_n 3, 1) := by decide +kernel
theorem dX8_readCamp_72 : decode cX8_readCamp 72 = .ok (.iload_n 3, 1) := by decide +kernel
theorem dX8_readCamp_73 : decode cX8_readCamp 73 = .ok (.ifCond .eq 18, 3) := by decide +kernel
theorem dX8_readCamp_76 : decode cX8_readCamp 76 = .ok (.aload_n 0, 1) := by decide +kernel
theorem dX8_readCamp_77 : decode cX8_readCamp 77 = .ok (.iload_n 3, 1) := by decide +kernel
theorem dX8_readCamp_78 : decode cX8_readCamp 78 = .ok (.putfield 74, 3) := by decide +kernel
theorem dX8_readCamp_81 : decode cX8_readCamp 81 = .ok (.aload_n 0, 1) := by decide +kernel
theorem dX8_readCamp_82 : decode cX8_readCamp 82 = .ok (.aload_n 0, 1) := by decide +kernel
theorem dX8_readCamp_83 : decode cX8_readCamp 83 = .ok (.getfield 86, 3) := by decide +kernel
theorem dX8_readCamp_86 : decode cX8_readCamp 86 = .ok (.putfield 22, 3) := by decide +kernel
theorem dX8_readCamp_89 : decode cX8_readCamp 89 = .ok (.iconst 0, 1) := by decide +kernel
theorem dX8_readCamp_90 : decode cX8_readCamp 90 = .ok (.ireturn, 1) := by decide +kernel
theorem dX8_readCamp_91 : decode cX8_readCamp 91 = .ok (.iinc 2 1, 3) := by decide +kernel
theorem dX8_readCamp_94 : decode cX8_readCamp 94 = .ok (.goto (-55), 3) := by decide +kernel
theorem dX8_readCamp_97 : decode cX8_readCamp 97 = .ok (.iconst 0, 1) := by decide +kernel
theorem dX8_readCamp_98 : decode cX8_readCamp 98 = .ok (.ireturn, 1) := by decide +kernel
theorem dX8_readToken_0 : decode cX8_readToken 0 = .ok (.aload_n 0, 1) := by decide +kernel
theorem dX8_readToken_1 : decode cX8_readToken 1 = .ok (.invokevirtual 89, 3) := by decide +kernel
theorem dX8_readToken_4 : decode cX8_readToken 4 = .ok (.aload_n 0, 1) := by decide +kernel
theorem dX8_readToken_5 : decode cX8_readToken 5 = .ok (.aload_n 0, 1) := by decide +kernel
theorem dX8_readToken_6 : decode cX8_readToken 6 = .ok (.getfield 65, 3) := by decide +kernel
theorem dX8_readToken_9 : decode cX8_readToken 9 = .ok (.putfield 86, 3) := by decide +kernel
theorem dX8_readToken_12 : decode cX8_readToken 12 = .ok (.aload_n 0, 1) := by decide +kernel
theorem dX8_readToken_13 : decode cX8_readToken 13 = .ok (.getfield 26, 3) := by decide +kernel
theorem dX8_readToken_16 : decode cX8_readToken 16 = .ok (.aload_n 0, 1) := by decide +kernel
theorem dX8_readToken_17 : decode cX8_readToken 17 = .ok (.getfield 65, 3) := by decide +kernel
theorem dX8_readToken_20 : decode cX8_readToken 20 = .ok (.invokevirtual 92, 3) := by decide +kernel
theorem dX8_readToken_23 : decode cX8_readToken 23 = .ok (.istore_n 1, 1) := by decide +kernel
theorem dX8_readToken_24 : decode cX8_readToken 24 = .ok (.iload_n 1, 1) := by decide +kernel
theorem dX8_readToken_25 : decode cX8_readToken 25 = .ok (.invokestatic 50, 3) := by decide +kernel
theorem dX8_readToken_28 : decode cX8_readToken 28 = .ok (.ifCond .eq 10, 3) := by decide +kernel
theorem dX8_readToken_31 : decode cX8_readToken 31 = .ok (.aload_n 0, 1) := by decide +kernel
theorem dX8_readToken_32 : decode cX8_readToken 32 = .ok (.invokevirtual 97, 3) := by decide +kernel
theorem dX8_readToken_35 : decode cX8_readToken 35 = .ok (.goto 55, 3) := by decide +kernel
theorem dX8_readToken_38 : decode cX8_readToken 38 = .ok (.iload_n 1, 1) := by decide +kernel
theorem dX8_readToken_39 : decode cX8_readToken 39 = .ok (.invokestatic 100, 3) := by decide +kernel
theorem dX8_readToken_42 : decode cX8_readToken 42 = .ok (.ifCond .eq 10, 3) := by decide +kernel
theorem dX8_readToken_45 : decode cX8_readToken 45 = .ok (.aload_n 0, 1) := by decide +kernel
theorem dX8_readToken_46 : decode cX8_readToken 46 = .ok (.invokevirtual 103, 3) := by decide +kernel
theorem dX8_readToken_49 : decode cX8_readToken 49 = .ok (.goto 41, 3) := by decide +kernel
theorem dX8_readToken_52 : decode cX8_readToken 52 = .ok (.iload_n 1, 1) := by decide +kernel
theorem dX8_readToken_53 : decode cX8_readToken 53 = .ok (.iconst (-1), 1) := by decide +kernel
theorem dX8_readToken_54 : decode cX8_readToken 54 = .ok (.if_icmp .ne 11, 3) := by decide +kernel
theorem dX8_readToken_57 : decode cX8_readToken 57 = .ok (.aload_n 0, 1) := by decide +kernel
theorem dX8_readToken_58 : decode cX8_readToken 58 = .ok (.iconst 4, 1) := by decide +kernel
theorem dX8_readToken_59 : decode cX8_readToken 59 = .ok (.putfield 80, 3) := by decide +kernel
theorem dX8_readToken_62 : decode cX8_readToken 62 = .ok (.goto 28, 3) := by decide +kernel
theorem dX8_readToken_65 : decode cX8_readToken 65 = .ok (.aload_n 0, 1) := by decide +kernel
theorem dX8_readToken_66 : decode cX8_readToken 66 = .ok (.iload_n 1, 1) := by decide +kernel
theorem dX8_readToken_67 : decode cX8_readToken 67 = .ok (.bipush 59, 2) := by decide +kernel
theorem dX8_readToken_69 : decode cX8_readToken 69 = .ok (.if_icmp .ne 7, 3) := by decide +kernel
theorem dX8_readToken_72 : decode cX8_readToken 72 = .ok (.iconst 3, 1) := by decide +kernel
theorem dX8_readToken_73 : decode cX8_readToken 73 = .ok (.goto 4, 3) := by decide +kernel
theorem dX8_readToken_76 : decode cX8_readToken 76 = .ok (.iconst 0, 1) := by decide +kernel
theorem dX8_readToken_77 : decode cX8_readToken 77 = .ok (.putfield 80, 3) := by decide +kernel
theorem dX8_readToken_80 : decode cX8_readToken 80 = .ok (.aload_n 0, 1) := by decide +kernel
theorem dX8_readToken_81 : decode cX8_readToken 81 = .ok (.dup, 1) := by decide +kernel
theorem dX8_readToken_82 : decode cX8_readToken 82 = .ok (.getfield 65, 3) := by decide +kernel
theorem dX8_readToken_85 : decode cX8_readToken 85 = .ok (.iconst 1, 1) := by decide +kernel
theorem dX8_readToken_86 : decode cX8_readToken 86 = .ok (.iadd, 1) := by decide +kernel
theorem dX8_readToken_87 : decode cX8_readToken 87 = .ok (.putfield 65, 3) := by decide +kernel
theorem dX8_readToken_90 : decode cX8_readToken 90 = .ok (.return_, 1) := by decide +kernel
theorem dX8_skipBlanks_0 : decode cX8_skipBlanks 0 = .ok (.aload_n 0, 1) := by decide +kernel
theorem dX8_skipBlanks_1 : decode cX8_skipBlanks 1 = .ok (.getfield 65, 3) := by decide +kernel
theorem dX8_skipBlanks_4 : decode cX8_skipBlanks 4 = .ok (.aload_n 0, 1) := by decide +kernel
theorem dX8_skipBlanks_5 : decode cX8_skipBlanks 5 = .ok (.getfield 26, 3) := by decide +kernel
theorem dX8_skipBlanks_8 : decode cX8_skipBlanks 8 = .ok (.getfield 106, 3) := by decide +kernel
theorem dX8_skipBlanks_11 : decode cX8_skipBlanks 11 = .ok (.if_icmp .ge 48, 3) := by decide +kernel
theorem dX8_skipBlanks_14 : decode cX8_skipBlanks 14 = .ok (.aload_n 0, 1) := by decide +kernel
theorem dX8_skipBlanks_15 : decode cX8_skipBlanks 15 = .ok (.getfield 26, 3) := by decide +kernel
theorem dX8_skipBlanks_18 : decode cX8_skipBlanks 18 = .ok (.aload_n 0, 1) := by decide +kernel
theorem dX8_skipBlanks_19 : decode cX8_skipBlanks 19 = .ok (.getfield 65, 3) := by decide +kernel
theorem dX8_skipBlanks_22 : decode cX8_skipBlanks 22 = .ok (.invokevirtual 92, 3) := by decide +kernel
theorem dX8_skipBlanks_25 : decode cX8_skipBlanks 25 = .ok (.bipush 32, 2) := by decide +kernel
theorem dX8_skipBlanks_27 : decode cX8_skipBlanks 27 = .ok (.if_icmp .eq 19, 3) := by decide +kernel
theorem dX8_skipBlanks_30 : decode cX8_skipBlanks 30 = .ok (.aload_n 0, 1) := by decide +kernel
theorem dX8_skipBlanks_31 : decode cX8_skipBlanks 31 = .ok (.getfield 26, 3) := by decide +kernel
theorem dX8_skipBlanks_34 : decode cX8_skipBlanks 34 = .ok (.aload_n 0, 1) := by decide +kernel
theorem dX8_skipBlanks_35 : decode cX8_skipBlanks 35 = .ok (.getfield 65, 3) := by decide +kernel
theorem dX8_skipBlanks_38 : decode cX8_skipBlanks 38 = .ok (.invokevirtual 92, 3) := by decide +kernel
theorem dX8_skipBlanks_41 : decode cX8_skipBlanks 41 = .ok (.bipush 10, 2) := by decide +kernel
theorem dX8_skipBlanks_43 : decode cX8_skipBlanks 43 = .ok (.if_icmp .ne 16, 3) := by decide +kernel
theorem dX8_skipBlanks_46 : decode cX8_skipBlanks 46 = .ok (.aload_n 0, 1) := by decide +kernel
theorem dX8_skipBlanks_47 : decode cX8_skipBlanks 47 = .ok (.dup, 1) := by decide +kernel
theorem dX8_skipBlanks_48 : decode cX8_skipBlanks 48 = .ok (.getfield 65, 3) := by decide +kernel
theorem dX8_skipBlanks_51 : decode cX8_skipBlanks 51 = .ok (.iconst 1, 1) := by decide +kernel
theorem dX8_skipBlanks_52 : decode cX8_skipBlanks 52 = .ok (.iadd, 1) := by decide +kernel
theorem dX8_skipBlanks_53 : decode cX8_skipBlanks 53 = .ok (.putfield 65, 3) := by decide +kernel
theorem dX8_skipBlanks_56 : decode cX8_skipBlanks 56 = .ok (.goto (-56), 3) := by decide +kernel
theorem dX8_skipBlanks_59 : decode cX8_skipBlanks 59 = .ok (.return_, 1) := by decide +kernel
theorem dX8_readWord_0 : decode cX8_readWord 0 = .ok (.aload_n 0, 1) := by decide +kernel
theorem dX8_readWord_1 : decode cX8_readWord 1 = .ok (.lconst 0, 1) := by decide +kernel
theorem dX8_readWord_2 : decode cX8_readWord 2 = .ok (.putfield 108, 3) := by decide +kernel
theorem dX8_readWord_5 : decode cX8_readWord 5 = .ok (.aload_n 0, 1) := by decide +kernel
theorem dX8_readWord_6 : decode cX8_readWord 6 = .ok (.getfield 65, 3) := by decide +kernel
theorem dX8_readWord_9 : decode cX8_readWord 9 = .ok (.aload_n 0, 1) := by decide +kernel
theorem dX8_readWord_10 : decode cX8_readWord 10 = .ok (.getfield 26, 3) := by decide +kernel
theorem dX8_readWord_13 : decode cX8_readWord 13 = .ok (.getfield 106, 3) := by decide +kernel
theorem dX8_readWord_16 : decode cX8_readWord 16 = .ok (.if_icmp .ge 55, 3) := by decide +kernel
theorem dX8_readWord_19 : decode cX8_readWord 19 = .ok (.aload_n 0, 1) := by decide +kernel
theorem dX8_readWord_20 : decode cX8_readWord 20 = .ok (.getfield 26, 3) := by decide +kernel
theorem dX8_readWord_23 : decode cX8_readWord 23 = .ok (.aload_n 0, 1) := by decide +kernel
theorem dX8_readWord_24 : decode cX8_readWord 24 = .ok (.getfield 65, 3) := by decide +kernel
theorem dX8_readWord_27 : decode cX8_readWord 27 = .ok (.invokevirtual 92, 3) := by decide +kernel
theorem dX8_readWord_30 : decode cX8_readWord 30 = .ok (.invokestatic 50, 3) := by decide +kernel
theorem dX8_readWord_33 : decode cX8_readWord 33 = .ok (.ifCond .eq 38, 3) := by decide +kernel
theorem dX8_readWord_36 : decode cX8_readWord 36 = .ok (.aload_n 0, 1) := by decide +kernel
theorem dX8_readWord_37 : decode cX8_readWord 37 = .ok (.aload_n 0, 1) := by decide +kernel
theorem dX8_readWord_38 : decode cX8_readWord 38 = .ok (.getfield 108, 3) := by decide +kernel
theorem dX8_readWord_41 : decode cX8_readWord 41 = .ok (.aload_n 0, 1) := by decide +kernel
theorem dX8_readWord_42 : decode cX8_readWord 42 = .ok (.getfield 26, 3) := by decide +kernel
theorem dX8_readWord_45 : decode cX8_readWord 45 = .ok (.aload_n 0, 1) := by decide +kernel
theorem dX8_readWord_46 : decode cX8_readWord 46 = .ok (.getfield 65, 3) := by decide +kernel
theorem dX8_readWord_49 : decode cX8_readWord 49 = .ok (.invokevirtual 92, 3) := by decide +kernel
theorem dX8_readWord_52 : decode cX8_readWord 52 = .ok (.invokestatic 54, 3) := by decide +kernel
theorem dX8_readWord_55 : decode cX8_readWord 55 = .ok (.putfield 108, 3) := by decide +kernel
theorem dX8_readWord_58 : decode cX8_readWord 58 = .ok (.aload_n 0, 1) := by decide +kernel
theorem dX8_readWord_59 : decode cX8_readWord 59 = .ok (.dup, 1) := by decide +kernel
theorem dX8_readWord_60 : decode cX8_readWord 60 = .ok (.getfield 65, 3) := by decide +kernel
theorem dX8_readWord_63 : decode cX8_readWord 63 = .ok (.iconst 1, 1) := by decide +kernel
theorem dX8_readWord_64 : decode cX8_readWord 64 = .ok (.iadd, 1) := by decide +kernel
theorem dX8_readWord_65 : decode cX8_readWord 65 = .ok (.putfield 65, 3) := by decide +kernel
theorem dX8_readWord_68 : decode cX8_readWord 68 = .ok (.goto (-63), 3) := by decide +kernel
theorem dX8_readWord_71 : decode cX8_readWord 71 = .ok (.aload_n 0, 1) := by decide +kernel
theorem dX8_readWord_72 : decode cX8_readWord 72 = .ok (.aload_n 0, 1) := by decide +kernel
theorem dX8_readWord_73 : decode cX8_readWord 73 = .ok (.getfield 65, 3) := by decide +kernel
theorem dX8_readWord_76 : decode cX8_readWord 76 = .ok (.aload_n 0, 1) := by decide +kernel
theorem dX8_readWord_77 : decode cX8_readWord 77 = .ok (.getfield 86, 3) := by decide +kernel
theorem dX8_readWord_80 : decode cX8_readWord 80 = .ok (.isub, 1) := by decide +kernel
theorem dX8_readWord_81 : decode cX8_readWord 81 = .ok (.bipush 8, 2) := by decide +kernel
theorem dX8_readWord_83 : decode cX8_readWord 83 = .ok (.if_icmp .le 7, 3) := by decide +kernel
theorem dX8_readWord_86 : decode cX8_readWord 86 = .ok (.iconst 0, 1) := by decide +kernel
theorem dX8_readWord_87 : decode cX8_readWord 87 = .ok (.goto 4, 3) := by decide +kernel
theorem dX8_readWord_90 : decode cX8_readWord 90 = .ok (.iconst 1, 1) := by decide +kernel
theorem dX8_readWord_91 : decode cX8_readWord 91 = .ok (.putfield 80, 3) := by decide +kernel
theorem dX8_readWord_94 : decode cX8_readWord 94 = .ok (.return_, 1) := by decide +kernel
theorem dX8_readNumber_0 : decode cX8_readNumber 0 = .ok (.aload_n 0, 1) := by decide +kernel
theorem dX8_readNumber_1 : decode cX8_readNumber 1 = .ok (.iconst 0, 1) := by decide +kernel
theorem dX8_readNumber_2 : decode cX8_readNumber 2 = .ok (.putfield 112, 3) := by decide +kernel
theorem dX8_readNumber_5 : decode cX8_readNumber 5 = .ok (.aload_n 0, 1) := by decide +kernel
