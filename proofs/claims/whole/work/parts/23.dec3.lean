theorem d_FU_clash_0 : decode b_FU_clash 0 = .ok (.iload_n 1, 1) := by decide +kernel
theorem d_FU_clash_1 : decode b_FU_clash 1 = .ok (.ifCond .lt 11, 3) := by decide +kernel
theorem d_FU_clash_4 : decode b_FU_clash 4 = .ok (.iload_n 2, 1) := by decide +kernel
theorem d_FU_clash_5 : decode b_FU_clash 5 = .ok (.iconst 3, 1) := by decide +kernel
theorem d_FU_clash_6 : decode b_FU_clash 6 = .ok (.invokestatic 90, 3) := by decide +kernel
theorem d_FU_clash_9 : decode b_FU_clash 9 = .ok (.ifCond .ne 5, 3) := by decide +kernel
theorem d_FU_clash_12 : decode b_FU_clash 12 = .ok (.iconst (-1), 1) := by decide +kernel
theorem d_FU_clash_13 : decode b_FU_clash 13 = .ok (.ireturn, 1) := by decide +kernel
theorem d_FU_clash_14 : decode b_FU_clash 14 = .ok (.iload_n 1, 1) := by decide +kernel
theorem d_FU_clash_15 : decode b_FU_clash 15 = .ok (.istore_n 3, 1) := by decide +kernel
theorem d_FU_clash_16 : decode b_FU_clash 16 = .ok (.iconst 0, 1) := by decide +kernel
theorem d_FU_clash_17 : decode b_FU_clash 17 = .ok (.istore 4, 2) := by decide +kernel
theorem d_FU_clash_19 : decode b_FU_clash 19 = .ok (.iload 4, 2) := by decide +kernel
theorem d_FU_clash_21 : decode b_FU_clash 21 = .ok (.aload_n 0, 1) := by decide +kernel
theorem d_FU_clash_22 : decode b_FU_clash 22 = .ok (.getfield 19, 3) := by decide +kernel
theorem d_FU_clash_25 : decode b_FU_clash 25 = .ok (.getfield 102, 3) := by decide +kernel
theorem d_FU_clash_28 : decode b_FU_clash 28 = .ok (.if_icmp .ge 125, 3) := by decide +kernel
theorem d_FU_clash_31 : decode b_FU_clash 31 = .ok (.iload 4, 2) := by decide +kernel
theorem d_FU_clash_33 : decode b_FU_clash 33 = .ok (.iconst 1, 1) := by decide +kernel
theorem d_FU_clash_34 : decode b_FU_clash 34 = .ok (.iadd, 1) := by decide +kernel
theorem d_FU_clash_35 : decode b_FU_clash 35 = .ok (.istore 5, 2) := by decide +kernel
theorem d_FU_clash_37 : decode b_FU_clash 37 = .ok (.iload 5, 2) := by decide +kernel
theorem d_FU_clash_39 : decode b_FU_clash 39 = .ok (.aload_n 0, 1) := by decide +kernel
theorem d_FU_clash_40 : decode b_FU_clash 40 = .ok (.getfield 19, 3) := by decide +kernel
theorem d_FU_clash_43 : decode b_FU_clash 43 = .ok (.getfield 102, 3) := by decide +kernel
theorem d_FU_clash_46 : decode b_FU_clash 46 = .ok (.if_icmp .ge 101, 3) := by decide +kernel
theorem d_FU_clash_49 : decode b_FU_clash 49 = .ok (.aload_n 0, 1) := by decide +kernel
theorem d_FU_clash_50 : decode b_FU_clash 50 = .ok (.getfield 19, 3) := by decide +kernel
theorem d_FU_clash_53 : decode b_FU_clash 53 = .ok (.iload 4, 2) := by decide +kernel
theorem d_FU_clash_55 : decode b_FU_clash 55 = .ok (.iload 5, 2) := by decide +kernel
theorem d_FU_clash_57 : decode b_FU_clash 57 = .ok (.invokevirtual 170, 3) := by decide +kernel
theorem d_FU_clash_60 : decode b_FU_clash 60 = .ok (.ifCond .ne 6, 3) := by decide +kernel
theorem d_FU_clash_63 : decode b_FU_clash 63 = .ok (.goto 78, 3) := by decide +kernel
theorem d_FU_clash_66 : decode b_FU_clash 66 = .ok (.iconst 0, 1) := by decide +kernel
theorem d_FU_clash_67 : decode b_FU_clash 67 = .ok (.istore 6, 2) := by decide +kernel
theorem d_FU_clash_69 : decode b_FU_clash 69 = .ok (.iload 6, 2) := by decide +kernel
theorem d_FU_clash_71 : decode b_FU_clash 71 = .ok (.iconst 2, 1) := by decide +kernel
theorem d_FU_clash_72 : decode b_FU_clash 72 = .ok (.if_icmp .ge 69, 3) := by decide +kernel
theorem d_FU_clash_75 : decode b_FU_clash 75 = .ok (.aload_n 0, 1) := by decide +kernel
theorem d_FU_clash_76 : decode b_FU_clash 76 = .ok (.getfield 51, 3) := by decide +kernel
theorem d_FU_clash_79 : decode b_FU_clash 79 = .ok (.iload 4, 2) := by decide +kernel
theorem d_FU_clash_81 : decode b_FU_clash 81 = .ok (.iload 6, 2) := by decide +kernel
theorem d_FU_clash_83 : decode b_FU_clash 83 = .ok (.invokevirtual 159, 3) := by decide +kernel
theorem d_FU_clash_86 : decode b_FU_clash 86 = .ok (.ifCond .eq 49, 3) := by decide +kernel
theorem d_FU_clash_89 : decode b_FU_clash 89 = .ok (.aload_n 0, 1) := by decide +kernel
theorem d_FU_clash_90 : decode b_FU_clash 90 = .ok (.getfield 51, 3) := by decide +kernel
theorem d_FU_clash_93 : decode b_FU_clash 93 = .ok (.iload 5, 2) := by decide +kernel
theorem d_FU_clash_95 : decode b_FU_clash 95 = .ok (.iload 6, 2) := by decide +kernel
theorem d_FU_clash_97 : decode b_FU_clash 97 = .ok (.invokevirtual 159, 3) := by decide +kernel
theorem d_FU_clash_100 : decode b_FU_clash 100 = .ok (.ifCond .ne 6, 3) := by decide +kernel
theorem d_FU_clash_103 : decode b_FU_clash 103 = .ok (.goto 32, 3) := by decide +kernel
theorem d_FU_clash_106 : decode b_FU_clash 106 = .ok (.iload_n 3, 1) := by decide +kernel
theorem d_FU_clash_107 : decode b_FU_clash 107 = .ok (.ifCond .ne 25, 3) := by decide +kernel
theorem d_FU_clash_110 : decode b_FU_clash 110 = .ok (.iload_n 2, 1) := by decide +kernel
theorem d_FU_clash_111 : decode b_FU_clash 111 = .ok (.ifCond .ne 8, 3) := by decide +kernel
theorem d_FU_clash_114 : decode b_FU_clash 114 = .ok (.iload 4, 2) := by decide +kernel
theorem d_FU_clash_116 : decode b_FU_clash 116 = .ok (.goto 15, 3) := by decide +kernel
theorem d_FU_clash_119 : decode b_FU_clash 119 = .ok (.iload_n 2, 1) := by decide +kernel
theorem d_FU_clash_120 : decode b_FU_clash 120 = .ok (.iconst 1, 1) := by decide +kernel
theorem d_FU_clash_121 : decode b_FU_clash 121 = .ok (.if_icmp .ne 8, 3) := by decide +kernel
theorem d_FU_clash_124 : decode b_FU_clash 124 = .ok (.iload 5, 2) := by decide +kernel
theorem d_FU_clash_126 : decode b_FU_clash 126 = .ok (.goto 5, 3) := by decide +kernel
theorem d_FU_clash_129 : decode b_FU_clash 129 = .ok (.iload 6, 2) := by decide +kernel
theorem d_FU_clash_131 : decode b_FU_clash 131 = .ok (.ireturn, 1) := by decide +kernel
theorem d_FU_clash_132 : decode b_FU_clash 132 = .ok (.iinc 3 (-1), 3) := by decide +kernel
theorem d_FU_clash_135 : decode b_FU_clash 135 = .ok (.iinc 6 1, 3) := by decide +kernel
theorem d_FU_clash_138 : decode b_FU_clash 138 = .ok (.goto (-69), 3) := by decide +kernel
theorem d_FU_clash_141 : decode b_FU_clash 141 = .ok (.iinc 5 1, 3) := by decide +kernel
theorem d_FU_clash_144 : decode b_FU_clash 144 = .ok (.goto (-107), 3) := by decide +kernel
theorem d_FU_clash_147 : decode b_FU_clash 147 = .ok (.iinc 4 1, 3) := by decide +kernel
theorem d_FU_clash_150 : decode b_FU_clash 150 = .ok (.goto (-131), 3) := by decide +kernel
theorem d_FU_clash_153 : decode b_FU_clash 153 = .ok (.iconst (-1), 1) := by decide +kernel
theorem d_FU_clash_154 : decode b_FU_clash 154 = .ok (.ireturn, 1) := by decide +kernel
theorem d_FU_noteLeavers_0 : decode b_FU_noteLeavers 0 = .ok (.aload_n 0, 1) := by decide +kernel
theorem d_FU_noteLeavers_1 : decode b_FU_noteLeavers 1 = .ok (.iconst 0, 1) := by decide +kernel
theorem d_FU_noteLeavers_2 : decode b_FU_noteLeavers 2 = .ok (.putfield 71, 3) := by decide +kernel
theorem d_FU_noteLeavers_5 : decode b_FU_noteLeavers 5 = .ok (.iconst 0, 1) := by decide +kernel
theorem d_FU_noteLeavers_6 : decode b_FU_noteLeavers 6 = .ok (.istore_n 1, 1) := by decide +kernel
theorem d_FU_noteLeavers_7 : decode b_FU_noteLeavers 7 = .ok (.iload_n 1, 1) := by decide +kernel
theorem d_FU_noteLeavers_8 : decode b_FU_noteLeavers 8 = .ok (.aload_n 0, 1) := by decide +kernel
theorem d_FU_noteLeavers_9 : decode b_FU_noteLeavers 9 = .ok (.getfield 19, 3) := by decide +kernel
theorem d_FU_noteLeavers_12 : decode b_FU_noteLeavers 12 = .ok (.getfield 102, 3) := by decide +kernel
theorem d_FU_noteLeavers_15 : decode b_FU_noteLeavers 15 = .ok (.if_icmp .ge 70, 3) := by decide +kernel
theorem d_FU_noteLeavers_18 : decode b_FU_noteLeavers 18 = .ok (.iconst 0, 1) := by decide +kernel
theorem d_FU_noteLeavers_19 : decode b_FU_noteLeavers 19 = .ok (.istore_n 2, 1) := by decide +kernel
theorem d_FU_noteLeavers_20 : decode b_FU_noteLeavers 20 = .ok (.iload_n 2, 1) := by decide +kernel
theorem d_FU_noteLeavers_21 : decode b_FU_noteLeavers 21 = .ok (.iconst 2, 1) := by decide +kernel
theorem d_FU_noteLeavers_22 : decode b_FU_noteLeavers 22 = .ok (.if_icmp .ge 57, 3) := by decide +kernel
theorem d_FU_noteLeavers_25 : decode b_FU_noteLeavers 25 = .ok (.aload_n 0, 1) := by decide +kernel
theorem d_FU_noteLeavers_26 : decode b_FU_noteLeavers 26 = .ok (.getfield 51, 3) := by decide +kernel
theorem d_FU_noteLeavers_29 : decode b_FU_noteLeavers 29 = .ok (.iload_n 1, 1) := by decide +kernel
theorem d_FU_noteLeavers_30 : decode b_FU_noteLeavers 30 = .ok (.iload_n 2, 1) := by decide +kernel
theorem d_FU_noteLeavers_31 : decode b_FU_noteLeavers 31 = .ok (.invokevirtual 159, 3) := by decide +kernel
theorem d_FU_noteLeavers_34 : decode b_FU_noteLeavers 34 = .ok (.ifCond .eq 39, 3) := by decide +kernel
theorem d_FU_noteLeavers_37 : decode b_FU_noteLeavers 37 = .ok (.aload_n 0, 1) := by decide +kernel
theorem d_FU_noteLeavers_38 : decode b_FU_noteLeavers 38 = .ok (.getfield 55, 3) := by decide +kernel
theorem d_FU_noteLeavers_41 : decode b_FU_noteLeavers 41 = .ok (.iload_n 1, 1) := by decide +kernel
theorem d_FU_noteLeavers_42 : decode b_FU_noteLeavers 42 = .ok (.iload_n 2, 1) := by decide +kernel
theorem d_FU_noteLeavers_43 : decode b_FU_noteLeavers 43 = .ok (.invokevirtual 159, 3) := by decide +kernel
theorem d_FU_noteLeavers_46 : decode b_FU_noteLeavers 46 = .ok (.ifCond .ne 27, 3) := by decide +kernel
theorem d_FU_noteLeavers_49 : decode b_FU_noteLeavers 49 = .ok (.aload_n 0, 1) := by decide +kernel
theorem d_FU_noteLeavers_50 : decode b_FU_noteLeavers 50 = .ok (.getfield 67, 3) := by decide +kernel
theorem d_FU_noteLeavers_53 : decode b_FU_noteLeavers 53 = .ok (.aload_n 0, 1) := by decide +kernel
theorem d_FU_noteLeavers_54 : decode b_FU_noteLeavers 54 = .ok (.getfield 71, 3) := by decide +kernel
theorem d_FU_noteLeavers_57 : decode b_FU_noteLeavers 57 = .ok (.iconst 2, 1) := by decide +kernel
theorem d_FU_noteLeavers_58 : decode b_FU_noteLeavers 58 = .ok (.iload_n 1, 1) := by decide +kernel
theorem d_FU_noteLeavers_59 : decode b_FU_noteLeavers 59 = .ok (.imul, 1) := by decide +kernel
theorem d_FU_noteLeavers_60 : decode b_FU_noteLeavers 60 = .ok (.iload_n 2, 1) := by decide +kernel
theorem d_FU_noteLeavers_61 : decode b_FU_noteLeavers 61 = .ok (.iadd, 1) := by decide +kernel
theorem d_FU_noteLeavers_62 : decode b_FU_noteLeavers 62 = .ok (.iastore, 1) := by decide +kernel
theorem d_FU_noteLeavers_63 : decode b_FU_noteLeavers 63 = .ok (.aload_n 0, 1) := by decide +kernel
theorem d_FU_noteLeavers_64 : decode b_FU_noteLeavers 64 = .ok (.dup, 1) := by decide +kernel
theorem d_FU_noteLeavers_65 : decode b_FU_noteLeavers 65 = .ok (.getfield 71, 3) := by decide +kernel
theorem d_FU_noteLeavers_68 : decode b_FU_noteLeavers 68 = .ok (.iconst 1, 1) := by decide +kernel
theorem d_FU_noteLeavers_69 : decode b_FU_noteLeavers 69 = .ok (.iadd, 1) := by decide +kernel
theorem d_FU_noteLeavers_70 : decode b_FU_noteLeavers 70 = .ok (.putfield 71, 3) := by decide +kernel
theorem d_FU_noteLeavers_73 : decode b_FU_noteLeavers 73 = .ok (.iinc 2 1, 3) := by decide +kernel
theorem d_FU_noteLeavers_76 : decode b_FU_noteLeavers 76 = .ok (.goto (-56), 3) := by decide +kernel
theorem d_FU_noteLeavers_79 : decode b_FU_noteLeavers 79 = .ok (.iinc 1 1, 3) := by decide +kernel
theorem d_FU_noteLeavers_82 : decode b_FU_noteLeavers 82 = .ok (.goto (-75), 3) := by decide +kernel
theorem d_FU_noteLeavers_85 : decode b_FU_noteLeavers 85 = .ok (.return_, 1) := by decide +kernel
theorem d_FU_without_0 : decode b_FU_without 0 = .ok (.aload_n 0, 1) := by decide +kernel
theorem d_FU_without_1 : decode b_FU_without 1 = .ok (.getfield 75, 3) := by decide +kernel
theorem d_FU_without_4 : decode b_FU_without 4 = .ok (.ifCond .eq 39, 3) := by decide +kernel
theorem d_FU_without_7 : decode b_FU_without 7 = .ok (.aload_n 0, 1) := by decide +kernel
theorem d_FU_without_8 : decode b_FU_without 8 = .ok (.getfield 26, 3) := by decide +kernel
theorem d_FU_without_11 : decode b_FU_without 11 = .ok (.iload_n 1, 1) := by decide +kernel
theorem d_FU_without_12 : decode b_FU_without 12 = .ok (.invokevirtual 120, 3) := by decide +kernel
theorem d_FU_without_15 : decode b_FU_without 15 = .ok (.ifCond .eq 28, 3) := by decide +kernel
theorem d_FU_without_18 : decode b_FU_without 18 = .ok (.iload_n 2, 1) := by decide +kernel
theorem d_FU_without_19 : decode b_FU_without 19 = .ok (.bipush 32, 2) := by decide +kernel
theorem d_FU_without_21 : decode b_FU_without 21 = .ok (.invokestatic 90, 3) := by decide +kernel
theorem d_FU_without_24 : decode b_FU_without 24 = .ok (.ifCond .eq 19, 3) := by decide +kernel
theorem d_FU_without_27 : decode b_FU_without 27 = .ok (.aload_n 0, 1) := by decide +kernel
theorem d_FU_without_28 : decode b_FU_without 28 = .ok (.getfield 42, 3) := by decide +kernel
theorem d_FU_without_31 : decode b_FU_without 31 = .ok (.getfield 173, 3) := by decide +kernel
theorem d_FU_without_34 : decode b_FU_without 34 = .ok (.iload_n 1, 1) := by decide +kernel
theorem d_FU_without_35 : decode b_FU_without 35 = .ok (.iaload, 1) := by decide +kernel
theorem d_FU_without_36 : decode b_FU_without 36 = .ok (.iload_n 2, 1) := by decide +kernel
theorem d_FU_without_37 : decode b_FU_without 37 = .ok (.invokestatic 109, 3) := by decide +kernel
theorem d_FU_without_40 : decode b_FU_without 40 = .ok (.ifCond .ne 5, 3) := by decide +kernel
theorem d_FU_without_43 : decode b_FU_without 43 = .ok (.iconst (-1), 1) := by decide +kernel
theorem d_FU_without_44 : decode b_FU_without 44 = .ok (.ireturn, 1) := by decide +kernel
theorem d_FU_without_45 : decode b_FU_without 45 = .ok (.aload_n 0, 1) := by decide +kernel
theorem d_FU_without_46 : decode b_FU_without 46 = .ok (.getfield 42, 3) := by decide +kernel
theorem d_FU_without_49 : decode b_FU_without 49 = .ok (.getfield 173, 3) := by decide +kernel
theorem d_FU_without_52 : decode b_FU_without 52 = .ok (.iload_n 1, 1) := by decide +kernel
theorem d_FU_without_53 : decode b_FU_without 53 = .ok (.iaload, 1) := by decide +kernel
theorem d_FU_without_54 : decode b_FU_without 54 = .ok (.istore_n 3, 1) := by decide +kernel
theorem d_FU_without_55 : decode b_FU_without 55 = .ok (.aload_n 0, 1) := by decide +kernel
theorem d_FU_without_56 : decode b_FU_without 56 = .ok (.getfield 42, 3) := by decide +kernel
theorem d_FU_without_59 : decode b_FU_without 59 = .ok (.getfield 173, 3) := by decide +kernel
theorem d_FU_without_62 : decode b_FU_without 62 = .ok (.iload_n 1, 1) := by decide +kernel
theorem d_FU_without_63 : decode b_FU_without 63 = .ok (.iload_n 3, 1) := by decide +kernel
theorem d_FU_without_64 : decode b_FU_without 64 = .ok (.iconst 1, 1) := by decide +kernel
theorem d_FU_without_65 : decode b_FU_without 65 = .ok (.iload_n 2, 1) := by decide +kernel
theorem d_FU_without_66 : decode b_FU_without 66 = .ok (.ishl, 1) := by decide +kernel
theorem d_FU_without_67 : decode b_FU_without 67 = .ok (.iconst (-1), 1) := by decide +kernel
theorem d_FU_without_68 : decode b_FU_without 68 = .ok (.ixor, 1) := by decide +kernel
theorem d_FU_without_69 : decode b_FU_without 69 = .ok (.iand, 1) := by decide +kernel
theorem d_FU_without_70 : decode b_FU_without 70 = .ok (.iastore, 1) := by decide +kernel
theorem d_FU_without_71 : decode b_FU_without 71 = .ok (.aload_n 0, 1) := by decide +kernel
theorem d_FU_without_72 : decode b_FU_without 72 = .ok (.getfield 55, 3) := by decide +kernel
theorem d_FU_without_75 : decode b_FU_without 75 = .ok (.invokevirtual 146, 3) := by decide +kernel
theorem d_FU_without_78 : decode b_FU_without 78 = .ok (.aload_n 0, 1) := by decide +kernel
theorem d_FU_without_79 : decode b_FU_without 79 = .ok (.getfield 42, 3) := by decide +kernel
theorem d_FU_without_82 : decode b_FU_without 82 = .ok (.getfield 173, 3) := by decide +kernel
theorem d_FU_without_85 : decode b_FU_without 85 = .ok (.iload_n 1, 1) := by decide +kernel
theorem d_FU_without_86 : decode b_FU_without 86 = .ok (.iload_n 3, 1) := by decide +kernel
theorem d_FU_without_87 : decode b_FU_without 87 = .ok (.iastore, 1) := by decide +kernel
theorem d_FU_without_88 : decode b_FU_without 88 = .ok (.aload_n 0, 1) := by decide +kernel
theorem d_FU_without_89 : decode b_FU_without 89 = .ok (.invokevirtual 174, 3) := by decide +kernel
theorem d_FU_without_92 : decode b_FU_without 92 = .ok (.aload_n 0, 1) := by decide +kernel
theorem d_FU_without_93 : decode b_FU_without 93 = .ok (.getfield 71, 3) := by decide +kernel
theorem d_FU_without_96 : decode b_FU_without 96 = .ok (.ireturn, 1) := by decide +kernel
theorem d_FU_left_0 : decode b_FU_left 0 = .ok (.iload_n 1, 1) := by decide +kernel
theorem d_FU_left_1 : decode b_FU_left 1 = .ok (.aload_n 0, 1) := by decide +kernel
theorem d_FU_left_2 : decode b_FU_left 2 = .ok (.getfield 71, 3) := by decide +kernel
theorem d_FU_left_5 : decode b_FU_left 5 = .ok (.invokestatic 90, 3) := by decide +kernel
theorem d_FU_left_8 : decode b_FU_left 8 = .ok (.ifCond .eq 12, 3) := by decide +kernel
theorem d_FU_left_11 : decode b_FU_left 11 = .ok (.aload_n 0, 1) := by decide +kernel
theorem d_FU_left_12 : decode b_FU_left 12 = .ok (.getfield 67, 3) := by decide +kernel
theorem d_FU_left_15 : decode b_FU_left 15 = .ok (.iload_n 1, 1) := by decide +kernel
theorem d_FU_left_16 : decode b_FU_left 16 = .ok (.iaload, 1) := by decide +kernel
theorem d_FU_left_17 : decode b_FU_left 17 = .ok (.goto 4, 3) := by decide +kernel
theorem d_FU_left_20 : decode b_FU_left 20 = .ok (.iconst (-1), 1) := by decide +kernel
theorem d_FU_left_21 : decode b_FU_left 21 = .ok (.ireturn, 1) := by decide +kernel
theorem d_Mod_init_0 : decode b_Mod_init 0 = .ok (.aload_n 0, 1) := by decide +kernel
theorem d_Mod_init_1 : decode b_Mod_init 1 = .ok (.invokespecial 1, 3) := by decide +kernel
theorem d_Mod_init_4 : decode b_Mod_init 4 = .ok (.aload_n 0, 1) := by decide +kernel
theorem d_Mod_init_5 : decode b_Mod_init 5 = .ok (.bipush 10, 2) := by decide +kernel
theorem d_Mod_init_7 : decode b_Mod_init 7 = .ok (.newarray .boolean, 2) := by decide +kernel
theorem d_Mod_init_9 : decode b_Mod_init 9 = .ok (.putfield 7, 3) := by decide +kernel
theorem d_Mod_init_12 : decode b_Mod_init 12 = .ok (.aload_n 0, 1) := by decide +kernel
theorem d_Mod_init_13 : decode b_Mod_init 13 = .ok (.bipush 10, 2) := by decide +kernel
theorem d_Mod_init_15 : decode b_Mod_init 15 = .ok (.newarray .boolean, 2) := by decide +kernel
theorem d_Mod_init_17 : decode b_Mod_init 17 = .ok (.putfield 13, 3) := by decide +kernel
theorem d_Mod_init_20 : decode b_Mod_init 20 = .ok (.aload_n 0, 1) := by decide +kernel
theorem d_Mod_init_21 : decode b_Mod_init 21 = .ok (.bipush 10, 2) := by decide +kernel
theorem d_Mod_init_23 : decode b_Mod_init 23 = .ok (.newarray .boolean, 2) := by decide +kernel
theorem d_Mod_init_25 : decode b_Mod_init 25 = .ok (.putfield 16, 3) := by decide +kernel
theorem d_Mod_init_28 : decode b_Mod_init 28 = .ok (.aload_n 0, 1) := by decide +kernel
theorem d_Mod_init_29 : decode b_Mod_init 29 = .ok (.bipush 60, 2) := by decide +kernel
theorem d_Mod_init_31 : decode b_Mod_init 31 = .ok (.newarray .int, 2) := by decide +kernel
theorem d_Mod_init_33 : decode b_Mod_init 33 = .ok (.putfield 19, 3) := by decide +kernel
theorem d_Mod_init_36 : decode b_Mod_init 36 = .ok (.aload_n 0, 1) := by decide +kernel
theorem d_Mod_init_37 : decode b_Mod_init 37 = .ok (.bipush 60, 2) := by decide +kernel
theorem d_Mod_init_39 : decode b_Mod_init 39 = .ok (.newarray .int, 2) := by decide +kernel
theorem d_Mod_init_41 : decode b_Mod_init 41 = .ok (.putfield 23, 3) := by decide +kernel
theorem d_Mod_init_44 : decode b_Mod_init 44 = .ok (.aload_n 0, 1) := by decide +kernel
theorem d_Mod_init_45 : decode b_Mod_init 45 = .ok (.bipush 60, 2) := by decide +kernel
theorem d_Mod_init_47 : decode b_Mod_init 47 = .ok (.newarray .int, 2) := by decide +kernel
theorem d_Mod_init_49 : decode b_Mod_init 49 = .ok (.putfield 26, 3) := by decide +kernel
theorem d_Mod_init_52 : decode b_Mod_init 52 = .ok (.aload_n 0, 1) := by decide +kernel
theorem d_Mod_init_53 : decode b_Mod_init 53 = .ok (.bipush 60, 2) := by decide +kernel
theorem d_Mod_init_55 : decode b_Mod_init 55 = .ok (.newarray .boolean, 2) := by decide +kernel
theorem d_Mod_init_57 : decode b_Mod_init 57 = .ok (.putfield 29, 3) := by decide +kernel
theorem d_Mod_init_60 : decode b_Mod_init 60 = .ok (.aload_n 0, 1) := by decide +kernel
theorem d_Mod_init_61 : decode b_Mod_init 61 = .ok (.bipush 40, 2) := by decide +kernel
theorem d_Mod_init_63 : decode b_Mod_init 63 = .ok (.newarray .int, 2) := by decide +kernel
theorem d_Mod_init_65 : decode b_Mod_init 65 = .ok (.putfield 32, 3) := by decide +kernel
theorem d_Mod_init_68 : decode b_Mod_init 68 = .ok (.aload_n 0, 1) := by decide +kernel
theorem d_Mod_init_69 : decode b_Mod_init 69 = .ok (.bipush 40, 2) := by decide +kernel
theorem d_Mod_init_71 : decode b_Mod_init 71 = .ok (.newarray .int, 2) := by decide +kernel
theorem d_Mod_init_73 : decode b_Mod_init 73 = .ok (.putfield 35, 3) := by decide +kernel
theorem d_Mod_init_76 : decode b_Mod_init 76 = .ok (.aload_n 0, 1) := by decide +kernel
theorem d_Mod_init_77 : decode b_Mod_init 77 = .ok (.bipush 40, 2) := by decide +kernel
theorem d_Mod_init_79 : decode b_Mod_init 79 = .ok (.newarray .int, 2) := by decide +kernel
theorem d_Mod_init_81 : decode b_Mod_init 81 = .ok (.putfield 38, 3) := by decide +kernel
theorem d_Mod_init_84 : decode b_Mod_init 84 = .ok (.aload_n 0, 1) := by decide +kernel
theorem d_Mod_init_85 : decode b_Mod_init 85 = .ok (.bipush 40, 2) := by decide +kernel
theorem d_Mod_init_87 : decode b_Mod_init 87 = .ok (.newarray .boolean, 2) := by decide +kernel
theorem d_Mod_init_89 : decode b_Mod_init 89 = .ok (.putfield 41, 3) := by decide +kernel
theorem d_Mod_init_92 : decode b_Mod_init 92 = .ok (.aload_n 0, 1) := by decide +kernel
theorem d_Mod_init_93 : decode b_Mod_init 93 = .ok (.bipush 40, 2) := by decide +kernel
theorem d_Mod_init_95 : decode b_Mod_init 95 = .ok (.newarray .boolean, 2) := by decide +kernel
theorem d_Mod_init_97 : decode b_Mod_init 97 = .ok (.putfield 44, 3) := by decide +kernel
theorem d_Mod_init_100 : decode b_Mod_init 100 = .ok (.aload_n 0, 1) := by decide +kernel
theorem d_Mod_init_101 : decode b_Mod_init 101 = .ok (.bipush 40, 2) := by decide +kernel
theorem d_Mod_init_103 : decode b_Mod_init 103 = .ok (.newarray .boolean, 2) := by decide +kernel
theorem d_Mod_init_105 : decode b_Mod_init 105 = .ok (.putfield 47, 3) := by decide +kernel
theorem d_Mod_init_108 : decode b_Mod_init 108 = .ok (.aload_n 0, 1) := by decide +kernel
theorem d_Mod_init_109 : decode b_Mod_init 109 = .ok (.sipush 400, 3) := by decide +kernel
theorem d_Mod_init_112 : decode b_Mod_init 112 = .ok (.newarray .int, 2) := by decide +kernel
theorem d_Mod_init_114 : decode b_Mod_init 114 = .ok (.putfield 50, 3) := by decide +kernel
theorem d_Mod_init_117 : decode b_Mod_init 117 = .ok (.aload_n 0, 1) := by decide +kernel
theorem d_Mod_init_118 : decode b_Mod_init 118 = .ok (.sipush 400, 3) := by decide +kernel
theorem d_Mod_init_121 : decode b_Mod_init 121 = .ok (.newarray .int, 2) := by decide +kernel
theorem d_Mod_init_123 : decode b_Mod_init 123 = .ok (.putfield 53, 3) := by decide +kernel
theorem d_Mod_init_126 : decode b_Mod_init 126 = .ok (.aload_n 0, 1) := by decide +kernel
theorem d_Mod_init_127 : decode b_Mod_init 127 = .ok (.bipush 60, 2) := by decide +kernel
theorem d_Mod_init_129 : decode b_Mod_init 129 = .ok (.newarray .int, 2) := by decide +kernel
theorem d_Mod_init_131 : decode b_Mod_init 131 = .ok (.putfield 56, 3) := by decide +kernel
theorem d_Mod_init_134 : decode b_Mod_init 134 = .ok (.aload_n 0, 1) := by decide +kernel
theorem d_Mod_init_135 : decode b_Mod_init 135 = .ok (.bipush 60, 2) := by decide +kernel
theorem d_Mod_init_137 : decode b_Mod_init 137 = .ok (.newarray .int, 2) := by decide +kernel
theorem d_Mod_init_139 : decode b_Mod_init 139 = .ok (.putfield 59, 3) := by decide +kernel
theorem d_Mod_init_142 : decode b_Mod_init 142 = .ok (.aload_n 0, 1) := by decide +kernel
theorem d_Mod_init_143 : decode b_Mod_init 143 = .ok (.bipush 60, 2) := by decide +kernel
theorem d_Mod_init_145 : decode b_Mod_init 145 = .ok (.newarray .int, 2) := by decide +kernel
theorem d_Mod_init_147 : decode b_Mod_init 147 = .ok (.putfield 62, 3) := by decide +kernel
theorem d_Mod_init_150 : decode b_Mod_init 150 = .ok (.aload_n 0, 1) := by decide +kernel
theorem d_Mod_init_151 : decode b_Mod_init 151 = .ok (.bipush 60, 2) := by decide +kernel
theorem d_Mod_init_153 : decode b_Mod_init 153 = .ok (.newarray .int, 2) := by decide +kernel
theorem d_Mod_init_155 : decode b_Mod_init 155 = .ok (.putfield 65, 3) := by decide +kernel
theorem d_Mod_init_158 : decode b_Mod_init 158 = .ok (.aload_n 0, 1) := by decide +kernel
theorem d_Mod_init_159 : decode b_Mod_init 159 = .ok (.bipush 10, 2) := by decide +kernel
theorem d_Mod_init_161 : decode b_Mod_init 161 = .ok (.newarray .boolean, 2) := by decide +kernel
theorem d_Mod_init_163 : decode b_Mod_init 163 = .ok (.putfield 68, 3) := by decide +kernel
theorem d_Mod_init_166 : decode b_Mod_init 166 = .ok (.aload_n 0, 1) := by decide +kernel
theorem d_Mod_init_167 : decode b_Mod_init 167 = .ok (.bipush 20, 2) := by decide +kernel
theorem d_Mod_init_169 : decode b_Mod_init 169 = .ok (.newarray .int, 2) := by decide +kernel
theorem d_Mod_init_171 : decode b_Mod_init 171 = .ok (.putfield 71, 3) := by decide +kernel
theorem d_Mod_init_174 : decode b_Mod_init 174 = .ok (.aload_n 0, 1) := by decide +kernel
theorem d_Mod_init_175 : decode b_Mod_init 175 = .ok (.bipush 80, 2) := by decide +kernel
theorem d_Mod_init_177 : decode b_Mod_init 177 = .ok (.newarray .int, 2) := by decide +kernel
theorem d_Mod_init_179 : decode b_Mod_init 179 = .ok (.putfield 74, 3) := by decide +kernel
theorem d_Mod_init_182 : decode b_Mod_init 182 = .ok (.aload_n 0, 1) := by decide +kernel
theorem d_Mod_init_183 : decode b_Mod_init 183 = .ok (.bipush 120, 2) := by decide +kernel
theorem d_Mod_init_185 : decode b_Mod_init 185 = .ok (.newarray .int, 2) := by decide +kernel
theorem d_Mod_init_187 : decode b_Mod_init 187 = .ok (.putfield 77, 3) := by decide +kernel
theorem d_Mod_init_190 : decode b_Mod_init 190 = .ok (.aload_n 0, 1) := by decide +kernel
theorem d_Mod_init_191 : decode b_Mod_init 191 = .ok (.bipush 20, 2) := by decide +kernel
theorem d_Mod_init_193 : decode b_Mod_init 193 = .ok (.newarray .int, 2) := by decide +kernel
theorem d_Mod_init_195 : decode b_Mod_init 195 = .ok (.putfield 80, 3) := by decide +kernel
theorem d_Mod_init_198 : decode b_Mod_init 198 = .ok (.aload_n 0, 1) := by decide +kernel
theorem d_Mod_init_199 : decode b_Mod_init 199 = .ok (.bipush 80, 2) := by decide +kernel
theorem d_Mod_init_201 : decode b_Mod_init 201 = .ok (.newarray .int, 2) := by decide +kernel
theorem d_Mod_init_203 : decode b_Mod_init 203 = .ok (.putfield 83, 3) := by decide +kernel
theorem d_Mod_init_206 : decode b_Mod_init 206 = .ok (.aload_n 0, 1) := by decide +kernel
theorem d_Mod_init_207 : decode b_Mod_init 207 = .ok (.bipush 120, 2) := by decide +kernel
theorem d_Mod_init_209 : decode b_Mod_init 209 = .ok (.newarray .int, 2) := by decide +kernel
theorem d_Mod_init_211 : decode b_Mod_init 211 = .ok (.putfield 86, 3) := by decide +kernel
theorem d_Mod_init_214 : decode b_Mod_init 214 = .ok (.aload_n 0, 1) := by decide +kernel
theorem d_Mod_init_215 : decode b_Mod_init 215 = .ok (.iconst (-1), 1) := by decide +kernel
theorem d_Mod_init_216 : decode b_Mod_init 216 = .ok (.putfield 89, 3) := by decide +kernel
theorem d_Mod_init_219 : decode b_Mod_init 219 = .ok (.aload_n 0, 1) := by decide +kernel
theorem d_Mod_init_220 : decode b_Mod_init 220 = .ok (.bipush 120, 2) := by decide +kernel
theorem d_Mod_init_222 : decode b_Mod_init 222 = .ok (.newarray .int, 2) := by decide +kernel
theorem d_Mod_init_224 : decode b_Mod_init 224 = .ok (.putfield 93, 3) := by decide +kernel
theorem d_Mod_init_227 : decode b_Mod_init 227 = .ok (.aload_n 0, 1) := by decide +kernel
theorem d_Mod_init_228 : decode b_Mod_init 228 = .ok (.sipush 400, 3) := by decide +kernel
theorem d_Mod_init_231 : decode b_Mod_init 231 = .ok (.newarray .int, 2) := by decide +kernel
theorem d_Mod_init_233 : decode b_Mod_init 233 = .ok (.putfield 96, 3) := by decide +kernel
theorem d_Mod_init_236 : decode b_Mod_init 236 = .ok (.aload_n 0, 1) := by decide +kernel
theorem d_Mod_init_237 : decode b_Mod_init 237 = .ok (.sipush 400, 3) := by decide +kernel
theorem d_Mod_init_240 : decode b_Mod_init 240 = .ok (.newarray .int, 2) := by decide +kernel
theorem d_Mod_init_242 : decode b_Mod_init 242 = .ok (.putfield 99, 3) := by decide +kernel
theorem d_Mod_init_245 : decode b_Mod_init 245 = .ok (.return_, 1) := by decide +kernel
theorem d_Mod_isPack_0 : decode b_Mod_isPack 0 = .ok (.iload_n 1, 1) := by decide +kernel
theorem d_Mod_isPack_1 : decode b_Mod_isPack 1 = .ok (.ifCond .lt 15, 3) := by decide +kernel
theorem d_Mod_isPack_4 : decode b_Mod_isPack 4 = .ok (.iload_n 1, 1) := by decide +kernel
theorem d_Mod_isPack_5 : decode b_Mod_isPack 5 = .ok (.aload_n 0, 1) := by decide +kernel
theorem d_Mod_isPack_6 : decode b_Mod_isPack 6 = .ok (.getfield 105, 3) := by decide +kernel
theorem d_Mod_isPack_9 : decode b_Mod_isPack 9 = .ok (.if_icmp .ge 7, 3) := by decide +kernel
theorem d_Mod_isPack_12 : decode b_Mod_isPack 12 = .ok (.iconst 1, 1) := by decide +kernel
theorem d_Mod_isPack_13 : decode b_Mod_isPack 13 = .ok (.goto 4, 3) := by decide +kernel
theorem d_Mod_isPack_16 : decode b_Mod_isPack 16 = .ok (.iconst 0, 1) := by decide +kernel
theorem d_Mod_isPack_17 : decode b_Mod_isPack 17 = .ok (.ireturn, 1) := by decide +kernel
theorem d_Mod_isUser_0 : decode b_Mod_isUser 0 = .ok (.iload_n 1, 1) := by decide +kernel
theorem d_Mod_isUser_1 : decode b_Mod_isUser 1 = .ok (.ifCond .lt 15, 3) := by decide +kernel
theorem d_Mod_isUser_4 : decode b_Mod_isUser 4 = .ok (.iload_n 1, 1) := by decide +kernel
theorem d_Mod_isUser_5 : decode b_Mod_isUser 5 = .ok (.aload_n 0, 1) := by decide +kernel
theorem d_Mod_isUser_6 : decode b_Mod_isUser 6 = .ok (.getfield 108, 3) := by decide +kernel
theorem d_Mod_isUser_9 : decode b_Mod_isUser 9 = .ok (.if_icmp .ge 7, 3) := by decide +kernel
theorem d_Mod_isUser_12 : decode b_Mod_isUser 12 = .ok (.iconst 1, 1) := by decide +kernel
theorem d_Mod_isUser_13 : decode b_Mod_isUser 13 = .ok (.goto 4, 3) := by decide +kernel
theorem d_Mod_isUser_16 : decode b_Mod_isUser 16 = .ok (.iconst 0, 1) := by decide +kernel
theorem d_Mod_isUser_17 : decode b_Mod_isUser 17 = .ok (.ireturn, 1) := by decide +kernel
theorem d_Mod_isFeature_0 : decode b_Mod_isFeature 0 = .ok (.iload_n 1, 1) := by decide +kernel
theorem d_Mod_isFeature_1 : decode b_Mod_isFeature 1 = .ok (.ifCond .lt 15, 3) := by decide +kernel
theorem d_Mod_isFeature_4 : decode b_Mod_isFeature 4 = .ok (.iload_n 1, 1) := by decide +kernel
theorem d_Mod_isFeature_5 : decode b_Mod_isFeature 5 = .ok (.aload_n 0, 1) := by decide +kernel
theorem d_Mod_isFeature_6 : decode b_Mod_isFeature 6 = .ok (.getfield 111, 3) := by decide +kernel
theorem d_Mod_isFeature_9 : decode b_Mod_isFeature 9 = .ok (.if_icmp .ge 7, 3) := by decide +kernel
theorem d_Mod_isFeature_12 : decode b_Mod_isFeature 12 = .ok (.iconst 1, 1) := by decide +kernel
theorem d_Mod_isFeature_13 : decode b_Mod_isFeature 13 = .ok (.goto 4, 3) := by decide +kernel
theorem d_Mod_isFeature_16 : decode b_Mod_isFeature 16 = .ok (.iconst 0, 1) := by decide +kernel
theorem d_Mod_isFeature_17 : decode b_Mod_isFeature 17 = .ok (.ireturn, 1) := by decide +kernel
theorem d_Mod_pack_0 : decode b_Mod_pack 0 = .ok (.aload_n 0, 1) := by decide +kernel
theorem d_Mod_pack_1 : decode b_Mod_pack 1 = .ok (.iconst 0, 1) := by decide +kernel
theorem d_Mod_pack_2 : decode b_Mod_pack 2 = .ok (.putfield 102, 3) := by decide +kernel
theorem d_Mod_pack_5 : decode b_Mod_pack 5 = .ok (.aload_n 0, 1) := by decide +kernel
theorem d_Mod_pack_6 : decode b_Mod_pack 6 = .ok (.getfield 105, 3) := by decide +kernel
theorem d_Mod_pack_9 : decode b_Mod_pack 9 = .ok (.bipush 10, 2) := by decide +kernel
theorem d_Mod_pack_11 : decode b_Mod_pack 11 = .ok (.if_icmp .ne 5, 3) := by decide +kernel
theorem d_Mod_pack_14 : decode b_Mod_pack 14 = .ok (.iconst (-1), 1) := by decide +kernel
theorem d_Mod_pack_15 : decode b_Mod_pack 15 = .ok (.ireturn, 1) := by decide +kernel
theorem d_Mod_pack_16 : decode b_Mod_pack 16 = .ok (.aload_n 0, 1) := by decide +kernel
theorem d_Mod_pack_17 : decode b_Mod_pack 17 = .ok (.getfield 7, 3) := by decide +kernel
theorem d_Mod_pack_20 : decode b_Mod_pack 20 = .ok (.aload_n 0, 1) := by decide +kernel
theorem d_Mod_pack_21 : decode b_Mod_pack 21 = .ok (.getfield 105, 3) := by decide +kernel
theorem d_Mod_pack_24 : decode b_Mod_pack 24 = .ok (.iload_n 1, 1) := by decide +kernel
theorem d_Mod_pack_25 : decode b_Mod_pack 25 = .ok (.bastore, 1) := by decide +kernel
theorem d_Mod_pack_26 : decode b_Mod_pack 26 = .ok (.aload_n 0, 1) := by decide +kernel
theorem d_Mod_pack_27 : decode b_Mod_pack 27 = .ok (.dup, 1) := by decide +kernel
theorem d_Mod_pack_28 : decode b_Mod_pack 28 = .ok (.getfield 105, 3) := by decide +kernel
theorem d_Mod_pack_31 : decode b_Mod_pack 31 = .ok (.iconst 1, 1) := by decide +kernel
theorem d_Mod_pack_32 : decode b_Mod_pack 32 = .ok (.iadd, 1) := by decide +kernel
theorem d_Mod_pack_33 : decode b_Mod_pack 33 = .ok (.putfield 105, 3) := by decide +kernel
theorem d_Mod_pack_36 : decode b_Mod_pack 36 = .ok (.aload_n 0, 1) := by decide +kernel
theorem d_Mod_pack_37 : decode b_Mod_pack 37 = .ok (.iconst 1, 1) := by decide +kernel
theorem d_Mod_pack_38 : decode b_Mod_pack 38 = .ok (.putfield 114, 3) := by decide +kernel
theorem d_Mod_pack_41 : decode b_Mod_pack 41 = .ok (.aload_n 0, 1) := by decide +kernel
theorem d_Mod_pack_42 : decode b_Mod_pack 42 = .ok (.getfield 105, 3) := by decide +kernel
theorem d_Mod_pack_45 : decode b_Mod_pack 45 = .ok (.iconst 1, 1) := by decide +kernel
theorem d_Mod_pack_46 : decode b_Mod_pack 46 = .ok (.isub, 1) := by decide +kernel
theorem d_Mod_pack_47 : decode b_Mod_pack 47 = .ok (.ireturn, 1) := by decide +kernel
theorem d_Mod_named_0 : decode b_Mod_named 0 = .ok (.iconst (-1), 1) := by decide +kernel
theorem d_Mod_named_1 : decode b_Mod_named 1 = .ok (.istore_n 3, 1) := by decide +kernel
theorem d_Mod_named_2 : decode b_Mod_named 2 = .ok (.iconst 0, 1) := by decide +kernel
theorem d_Mod_named_3 : decode b_Mod_named 3 = .ok (.istore 4, 2) := by decide +kernel
theorem d_Mod_named_5 : decode b_Mod_named 5 = .ok (.iload 4, 2) := by decide +kernel
theorem d_Mod_named_7 : decode b_Mod_named 7 = .ok (.aload_n 0, 1) := by decide +kernel
theorem d_Mod_named_8 : decode b_Mod_named 8 = .ok (.getfield 111, 3) := by decide +kernel
theorem d_Mod_named_11 : decode b_Mod_named 11 = .ok (.if_icmp .ge 38, 3) := by decide +kernel
theorem d_Mod_named_14 : decode b_Mod_named 14 = .ok (.aload_n 0, 1) := by decide +kernel
theorem d_Mod_named_15 : decode b_Mod_named 15 = .ok (.getfield 19, 3) := by decide +kernel
theorem d_Mod_named_18 : decode b_Mod_named 18 = .ok (.iload 4, 2) := by decide +kernel
theorem d_Mod_named_20 : decode b_Mod_named 20 = .ok (.iaload, 1) := by decide +kernel
theorem d_Mod_named_21 : decode b_Mod_named 21 = .ok (.iload_n 1, 1) := by decide +kernel
theorem d_Mod_named_22 : decode b_Mod_named 22 = .ok (.if_icmp .ne 19, 3) := by decide +kernel
theorem d_Mod_named_25 : decode b_Mod_named 25 = .ok (.aload_n 0, 1) := by decide +kernel
theorem d_Mod_named_26 : decode b_Mod_named 26 = .ok (.getfield 23, 3) := by decide +kernel
theorem d_Mod_named_29 : decode b_Mod_named 29 = .ok (.iload 4, 2) := by decide +kernel
theorem d_Mod_named_31 : decode b_Mod_named 31 = .ok (.iaload, 1) := by decide +kernel
theorem d_Mod_named_32 : decode b_Mod_named 32 = .ok (.iload_n 2, 1) := by decide +kernel
theorem d_Mod_named_33 : decode b_Mod_named 33 = .ok (.if_icmp .ne 8, 3) := by decide +kernel
theorem d_Mod_named_36 : decode b_Mod_named 36 = .ok (.iload 4, 2) := by decide +kernel
theorem d_Mod_named_38 : decode b_Mod_named 38 = .ok (.goto 4, 3) := by decide +kernel
theorem d_Mod_named_41 : decode b_Mod_named 41 = .ok (.iload_n 3, 1) := by decide +kernel
theorem d_Mod_named_42 : decode b_Mod_named 42 = .ok (.istore_n 3, 1) := by decide +kernel
theorem d_Mod_named_43 : decode b_Mod_named 43 = .ok (.iinc 4 1, 3) := by decide +kernel
theorem d_Mod_named_46 : decode b_Mod_named 46 = .ok (.goto (-41), 3) := by decide +kernel
theorem d_Mod_named_49 : decode b_Mod_named 49 = .ok (.iload_n 3, 1) := by decide +kernel
theorem d_Mod_named_50 : decode b_Mod_named 50 = .ok (.ireturn, 1) := by decide +kernel
theorem d_Mod_many_0 : decode b_Mod_many 0 = .ok (.iconst 0, 1) := by decide +kernel
theorem d_Mod_many_1 : decode b_Mod_many 1 = .ok (.istore_n 2, 1) := by decide +kernel
theorem d_Mod_many_2 : decode b_Mod_many 2 = .ok (.iconst 0, 1) := by decide +kernel
theorem d_Mod_many_3 : decode b_Mod_many 3 = .ok (.istore_n 3, 1) := by decide +kernel
theorem d_Mod_many_4 : decode b_Mod_many 4 = .ok (.iload_n 3, 1) := by decide +kernel
theorem d_Mod_many_5 : decode b_Mod_many 5 = .ok (.aload_n 0, 1) := by decide +kernel
theorem d_Mod_many_6 : decode b_Mod_many 6 = .ok (.getfield 111, 3) := by decide +kernel
theorem d_Mod_many_9 : decode b_Mod_many 9 = .ok (.if_icmp .ge 27, 3) := by decide +kernel
theorem d_Mod_many_12 : decode b_Mod_many 12 = .ok (.iload_n 2, 1) := by decide +kernel
theorem d_Mod_many_13 : decode b_Mod_many 13 = .ok (.aload_n 0, 1) := by decide +kernel
theorem d_Mod_many_14 : decode b_Mod_many 14 = .ok (.getfield 19, 3) := by decide +kernel
theorem d_Mod_many_17 : decode b_Mod_many 17 = .ok (.iload_n 3, 1) := by decide +kernel
theorem d_Mod_many_18 : decode b_Mod_many 18 = .ok (.iaload, 1) := by decide +kernel
theorem d_Mod_many_19 : decode b_Mod_many 19 = .ok (.iload_n 1, 1) := by decide +kernel
theorem d_Mod_many_20 : decode b_Mod_many 20 = .ok (.if_icmp .ne 7, 3) := by decide +kernel
theorem d_Mod_many_23 : decode b_Mod_many 23 = .ok (.iconst 1, 1) := by decide +kernel
theorem d_Mod_many_24 : decode b_Mod_many 24 = .ok (.goto 4, 3) := by decide +kernel
theorem d_Mod_many_27 : decode b_Mod_many 27 = .ok (.iconst 0, 1) := by decide +kernel
theorem d_Mod_many_28 : decode b_Mod_many 28 = .ok (.iadd, 1) := by decide +kernel
theorem d_Mod_many_29 : decode b_Mod_many 29 = .ok (.istore_n 2, 1) := by decide +kernel
theorem d_Mod_many_30 : decode b_Mod_many 30 = .ok (.iinc 3 1, 3) := by decide +kernel
theorem d_Mod_many_33 : decode b_Mod_many 33 = .ok (.goto (-29), 3) := by decide +kernel
theorem d_Mod_many_36 : decode b_Mod_many 36 = .ok (.iload_n 2, 1) := by decide +kernel
theorem d_Mod_many_37 : decode b_Mod_many 37 = .ok (.ireturn, 1) := by decide +kernel
theorem d_Mod_feature_0 : decode b_Mod_feature 0 = .ok (.aload_n 0, 1) := by decide +kernel
theorem d_Mod_feature_1 : decode b_Mod_feature 1 = .ok (.iconst 0, 1) := by decide +kernel
theorem d_Mod_feature_2 : decode b_Mod_feature 2 = .ok (.putfield 102, 3) := by decide +kernel
theorem d_Mod_feature_5 : decode b_Mod_feature 5 = .ok (.aload_n 0, 1) := by decide +kernel
theorem d_Mod_feature_6 : decode b_Mod_feature 6 = .ok (.iload_n 1, 1) := by decide +kernel
theorem d_Mod_feature_7 : decode b_Mod_feature 7 = .ok (.invokevirtual 118, 3) := by decide +kernel
theorem d_Mod_feature_10 : decode b_Mod_feature 10 = .ok (.ifCond .eq 54, 3) := by decide +kernel
theorem d_Mod_feature_13 : decode b_Mod_feature 13 = .ok (.iload_n 2, 1) := by decide +kernel
theorem d_Mod_feature_14 : decode b_Mod_feature 14 = .ok (.ifCond .lt 50, 3) := by decide +kernel
theorem d_Mod_feature_17 : decode b_Mod_feature 17 = .ok (.iload_n 2, 1) := by decide +kernel
theorem d_Mod_feature_18 : decode b_Mod_feature 18 = .ok (.bipush 32, 2) := by decide +kernel
theorem d_Mod_feature_20 : decode b_Mod_feature 20 = .ok (.if_icmp .ge 44, 3) := by decide +kernel
theorem d_Mod_feature_23 : decode b_Mod_feature 23 = .ok (.iload 4, 2) := by decide +kernel
theorem d_Mod_feature_25 : decode b_Mod_feature 25 = .ok (.ifCond .lt 39, 3) := by decide +kernel
theorem d_Mod_feature_28 : decode b_Mod_feature 28 = .ok (.iload 4, 2) := by decide +kernel
theorem d_Mod_feature_30 : decode b_Mod_feature 30 = .ok (.bipush 8, 2) := by decide +kernel
theorem d_Mod_feature_32 : decode b_Mod_feature 32 = .ok (.if_icmp .ge 32, 3) := by decide +kernel
theorem d_Mod_feature_35 : decode b_Mod_feature 35 = .ok (.aload_n 0, 1) := by decide +kernel
theorem d_Mod_feature_36 : decode b_Mod_feature 36 = .ok (.getfield 111, 3) := by decide +kernel
theorem d_Mod_feature_39 : decode b_Mod_feature 39 = .ok (.bipush 60, 2) := by decide +kernel
theorem d_Mod_feature_41 : decode b_Mod_feature 41 = .ok (.if_icmp .eq 23, 3) := by decide +kernel
theorem d_Mod_feature_44 : decode b_Mod_feature 44 = .ok (.aload_n 0, 1) := by decide +kernel
theorem d_Mod_feature_45 : decode b_Mod_feature 45 = .ok (.iload_n 1, 1) := by decide +kernel
theorem d_Mod_feature_46 : decode b_Mod_feature 46 = .ok (.invokevirtual 122, 3) := by decide +kernel
theorem d_Mod_feature_49 : decode b_Mod_feature 49 = .ok (.bipush 10, 2) := by decide +kernel
theorem d_Mod_feature_51 : decode b_Mod_feature 51 = .ok (.if_icmp .eq 13, 3) := by decide +kernel
theorem d_Mod_feature_54 : decode b_Mod_feature 54 = .ok (.aload_n 0, 1) := by decide +kernel
theorem d_Mod_feature_55 : decode b_Mod_feature 55 = .ok (.iload_n 1, 1) := by decide +kernel
theorem d_Mod_feature_56 : decode b_Mod_feature 56 = .ok (.iload_n 2, 1) := by decide +kernel
theorem d_Mod_feature_57 : decode b_Mod_feature 57 = .ok (.invokevirtual 126, 3) := by decide +kernel
theorem d_Mod_feature_60 : decode b_Mod_feature 60 = .ok (.iconst (-1), 1) := by decide +kernel
theorem d_Mod_feature_61 : decode b_Mod_feature 61 = .ok (.if_icmp .eq 5, 3) := by decide +kernel
theorem d_Mod_feature_64 : decode b_Mod_feature 64 = .ok (.iconst (-1), 1) := by decide +kernel
theorem d_Mod_feature_65 : decode b_Mod_feature 65 = .ok (.ireturn, 1) := by decide +kernel
theorem d_Mod_feature_66 : decode b_Mod_feature 66 = .ok (.aload_n 0, 1) := by decide +kernel
theorem d_Mod_feature_67 : decode b_Mod_feature 67 = .ok (.getfield 19, 3) := by decide +kernel
theorem d_Mod_feature_70 : decode b_Mod_feature 70 = .ok (.aload_n 0, 1) := by decide +kernel
theorem d_Mod_feature_71 : decode b_Mod_feature 71 = .ok (.getfield 111, 3) := by decide +kernel
theorem d_Mod_feature_74 : decode b_Mod_feature 74 = .ok (.iload_n 1, 1) := by decide +kernel
theorem d_Mod_feature_75 : decode b_Mod_feature 75 = .ok (.iastore, 1) := by decide +kernel
theorem d_Mod_feature_76 : decode b_Mod_feature 76 = .ok (.aload_n 0, 1) := by decide +kernel
theorem d_Mod_feature_77 : decode b_Mod_feature 77 = .ok (.getfield 23, 3) := by decide +kernel
theorem d_Mod_feature_80 : decode b_Mod_feature 80 = .ok (.aload_n 0, 1) := by decide +kernel
theorem d_Mod_feature_81 : decode b_Mod_feature 81 = .ok (.getfield 111, 3) := by decide +kernel
theorem d_Mod_feature_84 : decode b_Mod_feature 84 = .ok (.iload_n 2, 1) := by decide +kernel
theorem d_Mod_feature_85 : decode b_Mod_feature 85 = .ok (.iastore, 1) := by decide +kernel
theorem d_Mod_feature_86 : decode b_Mod_feature 86 = .ok (.aload_n 0, 1) := by decide +kernel
theorem d_Mod_feature_87 : decode b_Mod_feature 87 = .ok (.getfield 26, 3) := by decide +kernel
theorem d_Mod_feature_90 : decode b_Mod_feature 90 = .ok (.aload_n 0, 1) := by decide +kernel
theorem d_Mod_feature_91 : decode b_Mod_feature 91 = .ok (.getfield 111, 3) := by decide +kernel
theorem d_Mod_feature_94 : decode b_Mod_feature 94 = .ok (.iload 4, 2) := by decide +kernel
theorem d_Mod_feature_96 : decode b_Mod_feature 96 = .ok (.iastore, 1) := by decide +kernel
theorem d_Mod_feature_97 : decode b_Mod_feature 97 = .ok (.aload_n 0, 1) := by decide +kernel
theorem d_Mod_feature_98 : decode b_Mod_feature 98 = .ok (.getfield 29, 3) := by decide +kernel
theorem d_Mod_feature_101 : decode b_Mod_feature 101 = .ok (.aload_n 0, 1) := by decide +kernel
theorem d_Mod_feature_102 : decode b_Mod_feature 102 = .ok (.getfield 111, 3) := by decide +kernel
theorem d_Mod_feature_105 : decode b_Mod_feature 105 = .ok (.iload_n 3, 1) := by decide +kernel
theorem d_Mod_feature_106 : decode b_Mod_feature 106 = .ok (.bastore, 1) := by decide +kernel
theorem d_Mod_feature_107 : decode b_Mod_feature 107 = .ok (.aload_n 0, 1) := by decide +kernel
theorem d_Mod_feature_108 : decode b_Mod_feature 108 = .ok (.dup, 1) := by decide +kernel
theorem d_Mod_feature_109 : decode b_Mod_feature 109 = .ok (.getfield 111, 3) := by decide +kernel
theorem d_Mod_feature_112 : decode b_Mod_feature 112 = .ok (.iconst 1, 1) := by decide +kernel
theorem d_Mod_feature_113 : decode b_Mod_feature 113 = .ok (.iadd, 1) := by decide +kernel
theorem d_Mod_feature_114 : decode b_Mod_feature 114 = .ok (.putfield 111, 3) := by decide +kernel
theorem d_Mod_feature_117 : decode b_Mod_feature 117 = .ok (.aload_n 0, 1) := by decide +kernel
theorem d_Mod_feature_118 : decode b_Mod_feature 118 = .ok (.iconst 1, 1) := by decide +kernel
theorem d_Mod_feature_119 : decode b_Mod_feature 119 = .ok (.putfield 114, 3) := by decide +kernel
theorem d_Mod_feature_122 : decode b_Mod_feature 122 = .ok (.aload_n 0, 1) := by decide +kernel
theorem d_Mod_feature_123 : decode b_Mod_feature 123 = .ok (.getfield 111, 3) := by decide +kernel
theorem d_Mod_feature_126 : decode b_Mod_feature 126 = .ok (.iconst 1, 1) := by decide +kernel
theorem d_Mod_feature_127 : decode b_Mod_feature 127 = .ok (.isub, 1) := by decide +kernel
theorem d_Mod_feature_128 : decode b_Mod_feature 128 = .ok (.ireturn, 1) := by decide +kernel
theorem d_Mod_root_0 : decode b_Mod_root 0 = .ok (.aload_n 0, 1) := by decide +kernel
theorem d_Mod_root_1 : decode b_Mod_root 1 = .ok (.iconst 0, 1) := by decide +kernel
theorem d_Mod_root_2 : decode b_Mod_root 2 = .ok (.putfield 102, 3) := by decide +kernel
theorem d_Mod_root_5 : decode b_Mod_root 5 = .ok (.aload_n 0, 1) := by decide +kernel
theorem d_Mod_root_6 : decode b_Mod_root 6 = .ok (.iload_n 1, 1) := by decide +kernel
theorem d_Mod_root_7 : decode b_Mod_root 7 = .ok (.invokevirtual 118, 3) := by decide +kernel
theorem d_Mod_root_10 : decode b_Mod_root 10 = .ok (.ifCond .eq 12, 3) := by decide +kernel
theorem d_Mod_root_13 : decode b_Mod_root 13 = .ok (.aload_n 0, 1) := by decide +kernel
theorem d_Mod_root_14 : decode b_Mod_root 14 = .ok (.getfield 13, 3) := by decide +kernel
theorem d_Mod_root_17 : decode b_Mod_root 17 = .ok (.iload_n 1, 1) := by decide +kernel
theorem d_Mod_root_18 : decode b_Mod_root 18 = .ok (.baload, 1) := by decide +kernel
theorem d_Mod_root_19 : decode b_Mod_root 19 = .ok (.ifCond .eq 5, 3) := by decide +kernel
theorem d_Mod_root_22 : decode b_Mod_root 22 = .ok (.iconst 0, 1) := by decide +kernel
theorem d_Mod_root_23 : decode b_Mod_root 23 = .ok (.ireturn, 1) := by decide +kernel
theorem d_Mod_root_24 : decode b_Mod_root 24 = .ok (.aload_n 0, 1) := by decide +kernel
theorem d_Mod_root_25 : decode b_Mod_root 25 = .ok (.getfield 13, 3) := by decide +kernel
theorem d_Mod_root_28 : decode b_Mod_root 28 = .ok (.iload_n 1, 1) := by decide +kernel
theorem d_Mod_root_29 : decode b_Mod_root 29 = .ok (.iconst 1, 1) := by decide +kernel
theorem d_Mod_root_30 : decode b_Mod_root 30 = .ok (.bastore, 1) := by decide +kernel
theorem d_Mod_root_31 : decode b_Mod_root 31 = .ok (.aload_n 0, 1) := by decide +kernel
theorem d_Mod_root_32 : decode b_Mod_root 32 = .ok (.getfield 16, 3) := by decide +kernel
theorem d_Mod_root_35 : decode b_Mod_root 35 = .ok (.iload_n 1, 1) := by decide +kernel
theorem d_Mod_root_36 : decode b_Mod_root 36 = .ok (.iload_n 2, 1) := by decide +kernel
theorem d_Mod_root_37 : decode b_Mod_root 37 = .ok (.bastore, 1) := by decide +kernel
theorem d_Mod_root_38 : decode b_Mod_root 38 = .ok (.aload_n 0, 1) := by decide +kernel
theorem d_Mod_root_39 : decode b_Mod_root 39 = .ok (.iconst 1, 1) := by decide +kernel
theorem d_Mod_root_40 : decode b_Mod_root 40 = .ok (.putfield 114, 3) := by decide +kernel
theorem d_Mod_root_43 : decode b_Mod_root 43 = .ok (.iconst 1, 1) := by decide +kernel
theorem d_Mod_root_44 : decode b_Mod_root 44 = .ok (.ireturn, 1) := by decide +kernel
theorem d_Mod_user_0 : decode b_Mod_user 0 = .ok (.aload_n 0, 1) := by decide +kernel
theorem d_Mod_user_1 : decode b_Mod_user 1 = .ok (.iconst 0, 1) := by decide +kernel
theorem d_Mod_user_2 : decode b_Mod_user 2 = .ok (.putfield 102, 3) := by decide +kernel
theorem d_Mod_user_5 : decode b_Mod_user 5 = .ok (.aload_n 0, 1) := by decide +kernel
theorem d_Mod_user_6 : decode b_Mod_user 6 = .ok (.iload_n 1, 1) := by decide +kernel
theorem d_Mod_user_7 : decode b_Mod_user 7 = .ok (.invokevirtual 118, 3) := by decide +kernel
theorem d_Mod_user_10 : decode b_Mod_user 10 = .ok (.ifCond .eq 20, 3) := by decide +kernel
theorem d_Mod_user_13 : decode b_Mod_user 13 = .ok (.aload_n 0, 1) := by decide +kernel
theorem d_Mod_user_14 : decode b_Mod_user 14 = .ok (.iload_n 2, 1) := by decide +kernel
theorem d_Mod_user_15 : decode b_Mod_user 15 = .ok (.invokevirtual 118, 3) := by decide +kernel
theorem d_Mod_user_18 : decode b_Mod_user 18 = .ok (.ifCond .eq 12, 3) := by decide +kernel
theorem d_Mod_user_21 : decode b_Mod_user 21 = .ok (.aload_n 0, 1) := by decide +kernel
theorem d_Mod_user_22 : decode b_Mod_user 22 = .ok (.getfield 108, 3) := by decide +kernel
theorem d_Mod_user_25 : decode b_Mod_user 25 = .ok (.bipush 40, 2) := by decide +kernel
theorem d_Mod_user_27 : decode b_Mod_user 27 = .ok (.if_icmp .ne 5, 3) := by decide +kernel
theorem d_Mod_user_30 : decode b_Mod_user 30 = .ok (.iconst (-1), 1) := by decide +kernel
theorem d_Mod_user_31 : decode b_Mod_user 31 = .ok (.ireturn, 1) := by decide +kernel
theorem d_Mod_user_32 : decode b_Mod_user 32 = .ok (.aload_n 0, 1) := by decide +kernel
theorem d_Mod_user_33 : decode b_Mod_user 33 = .ok (.getfield 32, 3) := by decide +kernel
theorem d_Mod_user_36 : decode b_Mod_user 36 = .ok (.aload_n 0, 1) := by decide +kernel
theorem d_Mod_user_37 : decode b_Mod_user 37 = .ok (.getfield 108, 3) := by decide +kernel
theorem d_Mod_user_40 : decode b_Mod_user 40 = .ok (.iload_n 1, 1) := by decide +kernel
theorem d_Mod_user_41 : decode b_Mod_user 41 = .ok (.iastore, 1) := by decide +kernel
theorem d_Mod_user_42 : decode b_Mod_user 42 = .ok (.aload_n 0, 1) := by decide +kernel
theorem d_Mod_user_43 : decode b_Mod_user 43 = .ok (.getfield 35, 3) := by decide +kernel
theorem d_Mod_user_46 : decode b_Mod_user 46 = .ok (.aload_n 0, 1) := by decide +kernel
theorem d_Mod_user_47 : decode b_Mod_user 47 = .ok (.getfield 108, 3) := by decide +kernel
theorem d_Mod_user_50 : decode b_Mod_user 50 = .ok (.iload_n 2, 1) := by decide +kernel
theorem d_Mod_user_51 : decode b_Mod_user 51 = .ok (.iastore, 1) := by decide +kernel
theorem d_Mod_user_52 : decode b_Mod_user 52 = .ok (.aload_n 0, 1) := by decide +kernel
theorem d_Mod_user_53 : decode b_Mod_user 53 = .ok (.getfield 41, 3) := by decide +kernel
theorem d_Mod_user_56 : decode b_Mod_user 56 = .ok (.aload_n 0, 1) := by decide +kernel
theorem d_Mod_user_57 : decode b_Mod_user 57 = .ok (.getfield 108, 3) := by decide +kernel
theorem d_Mod_user_60 : decode b_Mod_user 60 = .ok (.iload_n 3, 1) := by decide +kernel
theorem d_Mod_user_61 : decode b_Mod_user 61 = .ok (.bastore, 1) := by decide +kernel
theorem d_Mod_user_62 : decode b_Mod_user 62 = .ok (.aload_n 0, 1) := by decide +kernel
theorem d_Mod_user_63 : decode b_Mod_user 63 = .ok (.getfield 44, 3) := by decide +kernel
theorem d_Mod_user_66 : decode b_Mod_user 66 = .ok (.aload_n 0, 1) := by decide +kernel
theorem d_Mod_user_67 : decode b_Mod_user 67 = .ok (.getfield 108, 3) := by decide +kernel
theorem d_Mod_user_70 : decode b_Mod_user 70 = .ok (.iload 4, 2) := by decide +kernel
theorem d_Mod_user_72 : decode b_Mod_user 72 = .ok (.bastore, 1) := by decide +kernel
theorem d_Mod_user_73 : decode b_Mod_user 73 = .ok (.aload_n 0, 1) := by decide +kernel
theorem d_Mod_user_74 : decode b_Mod_user 74 = .ok (.getfield 47, 3) := by decide +kernel
theorem d_Mod_user_77 : decode b_Mod_user 77 = .ok (.aload_n 0, 1) := by decide +kernel
theorem d_Mod_user_78 : decode b_Mod_user 78 = .ok (.getfield 108, 3) := by decide +kernel
theorem d_Mod_user_81 : decode b_Mod_user 81 = .ok (.iload 5, 2) := by decide +kernel
theorem d_Mod_user_83 : decode b_Mod_user 83 = .ok (.bastore, 1) := by decide +kernel
theorem d_Mod_user_84 : decode b_Mod_user 84 = .ok (.aload_n 0, 1) := by decide +kernel
theorem d_Mod_user_85 : decode b_Mod_user 85 = .ok (.getfield 38, 3) := by decide +kernel
theorem d_Mod_user_88 : decode b_Mod_user 88 = .ok (.aload_n 0, 1) := by decide +kernel
theorem d_Mod_user_89 : decode b_Mod_user 89 = .ok (.getfield 108, 3) := by decide +kernel
theorem d_Mod_user_92 : decode b_Mod_user 92 = .ok (.iload 6, 2) := by decide +kernel
theorem d_Mod_user_94 : decode b_Mod_user 94 = .ok (.iastore, 1) := by decide +kernel
theorem d_Mod_user_95 : decode b_Mod_user 95 = .ok (.aload_n 0, 1) := by decide +kernel
theorem d_Mod_user_96 : decode b_Mod_user 96 = .ok (.dup, 1) := by decide +kernel
theorem d_Mod_user_97 : decode b_Mod_user 97 = .ok (.getfield 108, 3) := by decide +kernel
theorem d_Mod_user_100 : decode b_Mod_user 100 = .ok (.iconst 1, 1) := by decide +kernel
theorem d_Mod_user_101 : decode b_Mod_user 101 = .ok (.iadd, 1) := by decide +kernel
theorem d_Mod_user_102 : decode b_Mod_user 102 = .ok (.putfield 108, 3) := by decide +kernel
theorem d_Mod_user_105 : decode b_Mod_user 105 = .ok (.aload_n 0, 1) := by decide +kernel
theorem d_Mod_user_106 : decode b_Mod_user 106 = .ok (.iconst 1, 1) := by decide +kernel
theorem d_Mod_user_107 : decode b_Mod_user 107 = .ok (.putfield 114, 3) := by decide +kernel
theorem d_Mod_user_110 : decode b_Mod_user 110 = .ok (.aload_n 0, 1) := by decide +kernel
theorem d_Mod_user_111 : decode b_Mod_user 111 = .ok (.getfield 108, 3) := by decide +kernel
theorem d_Mod_user_114 : decode b_Mod_user 114 = .ok (.iconst 1, 1) := by decide +kernel
theorem d_Mod_user_115 : decode b_Mod_user 115 = .ok (.isub, 1) := by decide +kernel
theorem d_Mod_user_116 : decode b_Mod_user 116 = .ok (.ireturn, 1) := by decide +kernel
theorem d_Mod_asking_0 : decode b_Mod_asking 0 = .ok (.iconst (-1), 1) := by decide +kernel
theorem d_Mod_asking_1 : decode b_Mod_asking 1 = .ok (.istore 4, 2) := by decide +kernel
theorem d_Mod_asking_3 : decode b_Mod_asking 3 = .ok (.iconst 0, 1) := by decide +kernel
theorem d_Mod_asking_4 : decode b_Mod_asking 4 = .ok (.istore 5, 2) := by decide +kernel
theorem d_Mod_asking_6 : decode b_Mod_asking 6 = .ok (.iload 5, 2) := by decide +kernel
theorem d_Mod_asking_8 : decode b_Mod_asking 8 = .ok (.iload_n 3, 1) := by decide +kernel
theorem d_Mod_asking_9 : decode b_Mod_asking 9 = .ok (.if_icmp .ge 40, 3) := by decide +kernel
theorem d_Mod_asking_12 : decode b_Mod_asking 12 = .ok (.aload_n 0, 1) := by decide +kernel
theorem d_Mod_asking_13 : decode b_Mod_asking 13 = .ok (.getfield 50, 3) := by decide +kernel
theorem d_Mod_asking_16 : decode b_Mod_asking 16 = .ok (.iload 5, 2) := by decide +kernel
theorem d_Mod_asking_18 : decode b_Mod_asking 18 = .ok (.iaload, 1) := by decide +kernel
theorem d_Mod_asking_19 : decode b_Mod_asking 19 = .ok (.iload_n 1, 1) := by decide +kernel
theorem d_Mod_asking_20 : decode b_Mod_asking 20 = .ok (.if_icmp .ne 19, 3) := by decide +kernel
theorem d_Mod_asking_23 : decode b_Mod_asking 23 = .ok (.aload_n 0, 1) := by decide +kernel
theorem d_Mod_asking_24 : decode b_Mod_asking 24 = .ok (.getfield 53, 3) := by decide +kernel
theorem d_Mod_asking_27 : decode b_Mod_asking 27 = .ok (.iload 5, 2) := by decide +kernel
theorem d_Mod_asking_29 : decode b_Mod_asking 29 = .ok (.iaload, 1) := by decide +kernel
theorem d_Mod_asking_30 : decode b_Mod_asking 30 = .ok (.iload_n 2, 1) := by decide +kernel
theorem d_Mod_asking_31 : decode b_Mod_asking 31 = .ok (.if_icmp .ne 8, 3) := by decide +kernel
theorem d_Mod_asking_34 : decode b_Mod_asking 34 = .ok (.iload 5, 2) := by decide +kernel
theorem d_Mod_asking_36 : decode b_Mod_asking 36 = .ok (.goto 5, 3) := by decide +kernel
theorem d_Mod_asking_39 : decode b_Mod_asking 39 = .ok (.iload 4, 2) := by decide +kernel
theorem d_Mod_asking_41 : decode b_Mod_asking 41 = .ok (.istore 4, 2) := by decide +kernel
theorem d_Mod_asking_43 : decode b_Mod_asking 43 = .ok (.iinc 5 1, 3) := by decide +kernel
theorem d_Mod_asking_46 : decode b_Mod_asking 46 = .ok (.goto (-40), 3) := by decide +kernel
theorem d_Mod_asking_49 : decode b_Mod_asking 49 = .ok (.iload 4, 2) := by decide +kernel
theorem d_Mod_asking_51 : decode b_Mod_asking 51 = .ok (.ireturn, 1) := by decide +kernel
