theorem d_FU_turn_0 : decode b_FU_turn 0 = .ok (.aload_n 0, 1) := by decide +kernel
theorem d_FU_turn_1 : decode b_FU_turn 1 = .ok (.getfield 19, 3) := by decide +kernel
theorem d_FU_turn_4 : decode b_FU_turn 4 = .ok (.iload_n 1, 1) := by decide +kernel
theorem d_FU_turn_5 : decode b_FU_turn 5 = .ok (.invokevirtual 127, 3) := by decide +kernel
theorem d_FU_turn_8 : decode b_FU_turn 8 = .ok (.ifCond .eq 23, 3) := by decide +kernel
theorem d_FU_turn_11 : decode b_FU_turn 11 = .ok (.iload_n 2, 1) := by decide +kernel
theorem d_FU_turn_12 : decode b_FU_turn 12 = .ok (.iconst 4, 1) := by decide +kernel
theorem d_FU_turn_13 : decode b_FU_turn 13 = .ok (.invokestatic 90, 3) := by decide +kernel
theorem d_FU_turn_16 : decode b_FU_turn 16 = .ok (.ifCond .eq 15, 3) := by decide +kernel
theorem d_FU_turn_19 : decode b_FU_turn 19 = .ok (.aload_n 0, 1) := by decide +kernel
theorem d_FU_turn_20 : decode b_FU_turn 20 = .ok (.getfield 33, 3) := by decide +kernel
theorem d_FU_turn_23 : decode b_FU_turn 23 = .ok (.getfield 128, 3) := by decide +kernel
theorem d_FU_turn_26 : decode b_FU_turn 26 = .ok (.bipush 60, 2) := by decide +kernel
theorem d_FU_turn_28 : decode b_FU_turn 28 = .ok (.if_icmp .lt 5, 3) := by decide +kernel
theorem d_FU_turn_31 : decode b_FU_turn 31 = .ok (.iconst (-1), 1) := by decide +kernel
theorem d_FU_turn_32 : decode b_FU_turn 32 = .ok (.ireturn, 1) := by decide +kernel
theorem d_FU_turn_33 : decode b_FU_turn 33 = .ok (.aload_n 0, 1) := by decide +kernel
theorem d_FU_turn_34 : decode b_FU_turn 34 = .ok (.getfield 19, 3) := by decide +kernel
theorem d_FU_turn_37 : decode b_FU_turn 37 = .ok (.getfield 129, 3) := by decide +kernel
theorem d_FU_turn_40 : decode b_FU_turn 40 = .ok (.iload_n 1, 1) := by decide +kernel
theorem d_FU_turn_41 : decode b_FU_turn 41 = .ok (.iaload, 1) := by decide +kernel
theorem d_FU_turn_42 : decode b_FU_turn 42 = .ok (.istore 5, 2) := by decide +kernel
theorem d_FU_turn_44 : decode b_FU_turn 44 = .ok (.iconst (-1), 1) := by decide +kernel
theorem d_FU_turn_45 : decode b_FU_turn 45 = .ok (.istore 6, 2) := by decide +kernel
theorem d_FU_turn_47 : decode b_FU_turn 47 = .ok (.iload_n 2, 1) := by decide +kernel
theorem d_FU_turn_48 : decode b_FU_turn 48 = .ok (.ifCond .eq 52, 3) := by decide +kernel
theorem d_FU_turn_51 : decode b_FU_turn 51 = .ok (.aload_n 0, 1) := by decide +kernel
theorem d_FU_turn_52 : decode b_FU_turn 52 = .ok (.getfield 26, 3) := by decide +kernel
theorem d_FU_turn_55 : decode b_FU_turn 55 = .ok (.iload_n 3, 1) := by decide +kernel
theorem d_FU_turn_56 : decode b_FU_turn 56 = .ok (.invokevirtual 120, 3) := by decide +kernel
theorem d_FU_turn_59 : decode b_FU_turn 59 = .ok (.ifCond .eq 17, 3) := by decide +kernel
theorem d_FU_turn_62 : decode b_FU_turn 62 = .ok (.aload_n 0, 1) := by decide +kernel
theorem d_FU_turn_63 : decode b_FU_turn 63 = .ok (.getfield 26, 3) := by decide +kernel
theorem d_FU_turn_66 : decode b_FU_turn 66 = .ok (.getfield 132, 3) := by decide +kernel
theorem d_FU_turn_69 : decode b_FU_turn 69 = .ok (.iload_n 3, 1) := by decide +kernel
theorem d_FU_turn_70 : decode b_FU_turn 70 = .ok (.iaload, 1) := by decide +kernel
theorem d_FU_turn_71 : decode b_FU_turn 71 = .ok (.iload 5, 2) := by decide +kernel
theorem d_FU_turn_73 : decode b_FU_turn 73 = .ok (.if_icmp .eq 5, 3) := by decide +kernel
theorem d_FU_turn_76 : decode b_FU_turn 76 = .ok (.iconst (-1), 1) := by decide +kernel
theorem d_FU_turn_77 : decode b_FU_turn 77 = .ok (.ireturn, 1) := by decide +kernel
theorem d_FU_turn_78 : decode b_FU_turn 78 = .ok (.iload_n 2, 1) := by decide +kernel
theorem d_FU_turn_79 : decode b_FU_turn 79 = .ok (.iconst 1, 1) := by decide +kernel
theorem d_FU_turn_80 : decode b_FU_turn 80 = .ok (.if_icmp .ne 17, 3) := by decide +kernel
theorem d_FU_turn_83 : decode b_FU_turn 83 = .ok (.aload_n 0, 1) := by decide +kernel
theorem d_FU_turn_84 : decode b_FU_turn 84 = .ok (.getfield 26, 3) := by decide +kernel
theorem d_FU_turn_87 : decode b_FU_turn 87 = .ok (.getfield 135, 3) := by decide +kernel
theorem d_FU_turn_90 : decode b_FU_turn 90 = .ok (.iload_n 3, 1) := by decide +kernel
theorem d_FU_turn_91 : decode b_FU_turn 91 = .ok (.baload, 1) := by decide +kernel
theorem d_FU_turn_92 : decode b_FU_turn 92 = .ok (.ifCond .ne 5, 3) := by decide +kernel
theorem d_FU_turn_95 : decode b_FU_turn 95 = .ok (.iconst (-1), 1) := by decide +kernel
theorem d_FU_turn_96 : decode b_FU_turn 96 = .ok (.ireturn, 1) := by decide +kernel
theorem d_FU_turn_97 : decode b_FU_turn 97 = .ok (.iload_n 3, 1) := by decide +kernel
theorem d_FU_turn_98 : decode b_FU_turn 98 = .ok (.istore 6, 2) := by decide +kernel
theorem d_FU_turn_100 : decode b_FU_turn 100 = .ok (.iconst (-1), 1) := by decide +kernel
theorem d_FU_turn_101 : decode b_FU_turn 101 = .ok (.istore 7, 2) := by decide +kernel
theorem d_FU_turn_103 : decode b_FU_turn 103 = .ok (.iload_n 2, 1) := by decide +kernel
theorem d_FU_turn_104 : decode b_FU_turn 104 = .ok (.iconst 1, 1) := by decide +kernel
theorem d_FU_turn_105 : decode b_FU_turn 105 = .ok (.if_icmp .eq 53, 3) := by decide +kernel
theorem d_FU_turn_108 : decode b_FU_turn 108 = .ok (.aload_n 0, 1) := by decide +kernel
theorem d_FU_turn_109 : decode b_FU_turn 109 = .ok (.getfield 19, 3) := by decide +kernel
theorem d_FU_turn_112 : decode b_FU_turn 112 = .ok (.iload 6, 2) := by decide +kernel
theorem d_FU_turn_114 : decode b_FU_turn 114 = .ok (.iconst (-1), 1) := by decide +kernel
theorem d_FU_turn_115 : decode b_FU_turn 115 = .ok (.if_icmp .ne 8, 3) := by decide +kernel
theorem d_FU_turn_118 : decode b_FU_turn 118 = .ok (.iload 5, 2) := by decide +kernel
theorem d_FU_turn_120 : decode b_FU_turn 120 = .ok (.goto 13, 3) := by decide +kernel
theorem d_FU_turn_123 : decode b_FU_turn 123 = .ok (.aload_n 0, 1) := by decide +kernel
theorem d_FU_turn_124 : decode b_FU_turn 124 = .ok (.getfield 26, 3) := by decide +kernel
theorem d_FU_turn_127 : decode b_FU_turn 127 = .ok (.getfield 121, 3) := by decide +kernel
theorem d_FU_turn_130 : decode b_FU_turn 130 = .ok (.iload 6, 2) := by decide +kernel
theorem d_FU_turn_132 : decode b_FU_turn 132 = .ok (.iaload, 1) := by decide +kernel
theorem d_FU_turn_133 : decode b_FU_turn 133 = .ok (.iload 4, 2) := by decide +kernel
theorem d_FU_turn_135 : decode b_FU_turn 135 = .ok (.invokevirtual 94, 3) := by decide +kernel
theorem d_FU_turn_138 : decode b_FU_turn 138 = .ok (.istore 7, 2) := by decide +kernel
theorem d_FU_turn_140 : decode b_FU_turn 140 = .ok (.iload 7, 2) := by decide +kernel
theorem d_FU_turn_142 : decode b_FU_turn 142 = .ok (.iconst (-1), 1) := by decide +kernel
theorem d_FU_turn_143 : decode b_FU_turn 143 = .ok (.if_icmp .eq 13, 3) := by decide +kernel
theorem d_FU_turn_146 : decode b_FU_turn 146 = .ok (.iload_n 2, 1) := by decide +kernel
theorem d_FU_turn_147 : decode b_FU_turn 147 = .ok (.ifCond .ne 11, 3) := by decide +kernel
theorem d_FU_turn_150 : decode b_FU_turn 150 = .ok (.iload 7, 2) := by decide +kernel
theorem d_FU_turn_152 : decode b_FU_turn 152 = .ok (.iload_n 1, 1) := by decide +kernel
theorem d_FU_turn_153 : decode b_FU_turn 153 = .ok (.if_icmp .ne 5, 3) := by decide +kernel
theorem d_FU_turn_156 : decode b_FU_turn 156 = .ok (.iconst (-1), 1) := by decide +kernel
theorem d_FU_turn_157 : decode b_FU_turn 157 = .ok (.ireturn, 1) := by decide +kernel
theorem d_FU_turn_158 : decode b_FU_turn 158 = .ok (.aload_n 0, 1) := by decide +kernel
theorem d_FU_turn_159 : decode b_FU_turn 159 = .ok (.iconst 0, 1) := by decide +kernel
theorem d_FU_turn_160 : decode b_FU_turn 160 = .ok (.putfield 75, 3) := by decide +kernel
theorem d_FU_turn_163 : decode b_FU_turn 163 = .ok (.aload_n 0, 1) := by decide +kernel
theorem d_FU_turn_164 : decode b_FU_turn 164 = .ok (.getfield 33, 3) := by decide +kernel
theorem d_FU_turn_167 : decode b_FU_turn 167 = .ok (.iload_n 1, 1) := by decide +kernel
theorem d_FU_turn_168 : decode b_FU_turn 168 = .ok (.iload_n 2, 1) := by decide +kernel
theorem d_FU_turn_169 : decode b_FU_turn 169 = .ok (.iload 6, 2) := by decide +kernel
theorem d_FU_turn_171 : decode b_FU_turn 171 = .ok (.iload 7, 2) := by decide +kernel
theorem d_FU_turn_173 : decode b_FU_turn 173 = .ok (.invokevirtual 139, 3) := by decide +kernel
theorem d_FU_turn_176 : decode b_FU_turn 176 = .ok (.ireturn, 1) := by decide +kernel
theorem d_Snap_take_0 : decode b_Snap_take 0 = .ok (.aload_n 0, 1) := by decide +kernel
theorem d_Snap_take_1 : decode b_Snap_take 1 = .ok (.iload_n 1, 1) := by decide +kernel
theorem d_Snap_take_2 : decode b_Snap_take 2 = .ok (.putfield 9, 3) := by decide +kernel
theorem d_Snap_take_5 : decode b_Snap_take 5 = .ok (.aload_n 0, 1) := by decide +kernel
theorem d_Snap_take_6 : decode b_Snap_take 6 = .ok (.aload_n 0, 1) := by decide +kernel
theorem d_Snap_take_7 : decode b_Snap_take 7 = .ok (.getfield 37, 3) := by decide +kernel
theorem d_Snap_take_10 : decode b_Snap_take 10 = .ok (.getfield 53, 3) := by decide +kernel
theorem d_Snap_take_13 : decode b_Snap_take 13 = .ok (.putfield 15, 3) := by decide +kernel
theorem d_Snap_take_16 : decode b_Snap_take 16 = .ok (.aload_n 0, 1) := by decide +kernel
theorem d_Snap_take_17 : decode b_Snap_take 17 = .ok (.aload_n 0, 1) := by decide +kernel
theorem d_Snap_take_18 : decode b_Snap_take 18 = .ok (.getfield 37, 3) := by decide +kernel
theorem d_Snap_take_21 : decode b_Snap_take 21 = .ok (.getfield 56, 3) := by decide +kernel
theorem d_Snap_take_24 : decode b_Snap_take 24 = .ok (.putfield 18, 3) := by decide +kernel
theorem d_Snap_take_27 : decode b_Snap_take 27 = .ok (.aload_n 0, 1) := by decide +kernel
theorem d_Snap_take_28 : decode b_Snap_take 28 = .ok (.aload_n 0, 1) := by decide +kernel
theorem d_Snap_take_29 : decode b_Snap_take 29 = .ok (.getfield 37, 3) := by decide +kernel
theorem d_Snap_take_32 : decode b_Snap_take 32 = .ok (.getfield 57, 3) := by decide +kernel
theorem d_Snap_take_35 : decode b_Snap_take 35 = .ok (.putfield 21, 3) := by decide +kernel
theorem d_Snap_take_38 : decode b_Snap_take 38 = .ok (.aload_n 0, 1) := by decide +kernel
theorem d_Snap_take_39 : decode b_Snap_take 39 = .ok (.aload_n 0, 1) := by decide +kernel
theorem d_Snap_take_40 : decode b_Snap_take 40 = .ok (.getfield 41, 3) := by decide +kernel
theorem d_Snap_take_43 : decode b_Snap_take 43 = .ok (.getfield 60, 3) := by decide +kernel
theorem d_Snap_take_46 : decode b_Snap_take 46 = .ok (.putfield 24, 3) := by decide +kernel
theorem d_Snap_take_49 : decode b_Snap_take 49 = .ok (.aload_n 0, 1) := by decide +kernel
theorem d_Snap_take_50 : decode b_Snap_take 50 = .ok (.aload_n 0, 1) := by decide +kernel
theorem d_Snap_take_51 : decode b_Snap_take 51 = .ok (.getfield 45, 3) := by decide +kernel
theorem d_Snap_take_54 : decode b_Snap_take 54 = .ok (.getfield 63, 3) := by decide +kernel
theorem d_Snap_take_57 : decode b_Snap_take 57 = .ok (.putfield 27, 3) := by decide +kernel
theorem d_Snap_take_60 : decode b_Snap_take 60 = .ok (.aload_n 0, 1) := by decide +kernel
theorem d_Snap_take_61 : decode b_Snap_take 61 = .ok (.aload_n 0, 1) := by decide +kernel
theorem d_Snap_take_62 : decode b_Snap_take 62 = .ok (.getfield 49, 3) := by decide +kernel
theorem d_Snap_take_65 : decode b_Snap_take 65 = .ok (.getfield 66, 3) := by decide +kernel
theorem d_Snap_take_68 : decode b_Snap_take 68 = .ok (.putfield 30, 3) := by decide +kernel
theorem d_Snap_take_71 : decode b_Snap_take 71 = .ok (.aload_n 0, 1) := by decide +kernel
theorem d_Snap_take_72 : decode b_Snap_take 72 = .ok (.getfield 45, 3) := by decide +kernel
theorem d_Snap_take_75 : decode b_Snap_take 75 = .ok (.getfield 69, 3) := by decide +kernel
theorem d_Snap_take_78 : decode b_Snap_take 78 = .ok (.iconst 0, 1) := by decide +kernel
theorem d_Snap_take_79 : decode b_Snap_take 79 = .ok (.aload_n 0, 1) := by decide +kernel
theorem d_Snap_take_80 : decode b_Snap_take 80 = .ok (.getfield 33, 3) := by decide +kernel
theorem d_Snap_take_83 : decode b_Snap_take 83 = .ok (.iconst 0, 1) := by decide +kernel
theorem d_Snap_take_84 : decode b_Snap_take 84 = .ok (.bipush 40, 2) := by decide +kernel
theorem d_Snap_take_86 : decode b_Snap_take 86 = .ok (.invokestatic 70, 3) := by decide +kernel
theorem d_Snap_take_89 : decode b_Snap_take 89 = .ok (.return_, 1) := by decide +kernel
theorem d_Clo_bring_0 : decode b_Clo_bring 0 = .ok (.aload_n 0, 1) := by decide +kernel
theorem d_Clo_bring_1 : decode b_Clo_bring 1 = .ok (.getfield 9, 3) := by decide +kernel
theorem d_Clo_bring_4 : decode b_Clo_bring 4 = .ok (.iload_n 1, 1) := by decide +kernel
theorem d_Clo_bring_5 : decode b_Clo_bring 5 = .ok (.iaload, 1) := by decide +kernel
theorem d_Clo_bring_6 : decode b_Clo_bring 6 = .ok (.ifCond .ne 40, 3) := by decide +kernel
theorem d_Clo_bring_9 : decode b_Clo_bring 9 = .ok (.aload_n 0, 1) := by decide +kernel
theorem d_Clo_bring_10 : decode b_Clo_bring 10 = .ok (.getfield 18, 3) := by decide +kernel
theorem d_Clo_bring_13 : decode b_Clo_bring 13 = .ok (.sipush 220, 3) := by decide +kernel
theorem d_Clo_bring_16 : decode b_Clo_bring 16 = .ok (.if_icmp .ge 30, 3) := by decide +kernel
theorem d_Clo_bring_19 : decode b_Clo_bring 19 = .ok (.aload_n 0, 1) := by decide +kernel
theorem d_Clo_bring_20 : decode b_Clo_bring 20 = .ok (.getfield 9, 3) := by decide +kernel
theorem d_Clo_bring_23 : decode b_Clo_bring 23 = .ok (.iload_n 1, 1) := by decide +kernel
theorem d_Clo_bring_24 : decode b_Clo_bring 24 = .ok (.iload_n 2, 1) := by decide +kernel
theorem d_Clo_bring_25 : decode b_Clo_bring 25 = .ok (.iastore, 1) := by decide +kernel
theorem d_Clo_bring_26 : decode b_Clo_bring 26 = .ok (.aload_n 0, 1) := by decide +kernel
theorem d_Clo_bring_27 : decode b_Clo_bring 27 = .ok (.getfield 15, 3) := by decide +kernel
theorem d_Clo_bring_30 : decode b_Clo_bring 30 = .ok (.aload_n 0, 1) := by decide +kernel
theorem d_Clo_bring_31 : decode b_Clo_bring 31 = .ok (.getfield 18, 3) := by decide +kernel
theorem d_Clo_bring_34 : decode b_Clo_bring 34 = .ok (.iload_n 1, 1) := by decide +kernel
theorem d_Clo_bring_35 : decode b_Clo_bring 35 = .ok (.iastore, 1) := by decide +kernel
theorem d_Clo_bring_36 : decode b_Clo_bring 36 = .ok (.aload_n 0, 1) := by decide +kernel
theorem d_Clo_bring_37 : decode b_Clo_bring 37 = .ok (.dup, 1) := by decide +kernel
theorem d_Clo_bring_38 : decode b_Clo_bring 38 = .ok (.getfield 18, 3) := by decide +kernel
theorem d_Clo_bring_41 : decode b_Clo_bring 41 = .ok (.iconst 1, 1) := by decide +kernel
theorem d_Clo_bring_42 : decode b_Clo_bring 42 = .ok (.iadd, 1) := by decide +kernel
theorem d_Clo_bring_43 : decode b_Clo_bring 43 = .ok (.putfield 18, 3) := by decide +kernel
theorem d_Clo_bring_46 : decode b_Clo_bring 46 = .ok (.return_, 1) := by decide +kernel
theorem d_Clo_bringThere_0 : decode b_Clo_bringThere 0 = .ok (.aload_n 0, 1) := by decide +kernel
theorem d_Clo_bringThere_1 : decode b_Clo_bringThere 1 = .ok (.iconst 2, 1) := by decide +kernel
theorem d_Clo_bringThere_2 : decode b_Clo_bringThere 2 = .ok (.iload_n 1, 1) := by decide +kernel
theorem d_Clo_bringThere_3 : decode b_Clo_bringThere 3 = .ok (.imul, 1) := by decide +kernel
theorem d_Clo_bringThere_4 : decode b_Clo_bringThere 4 = .ok (.iload_n 2, 1) := by decide +kernel
theorem d_Clo_bringThere_5 : decode b_Clo_bringThere 5 = .ok (.iadd, 1) := by decide +kernel
theorem d_Clo_bringThere_6 : decode b_Clo_bringThere 6 = .ok (.iload_n 3, 1) := by decide +kernel
theorem d_Clo_bringThere_7 : decode b_Clo_bringThere 7 = .ok (.invokevirtual 154, 3) := by decide +kernel
theorem d_Clo_bringThere_10 : decode b_Clo_bringThere 10 = .ok (.return_, 1) := by decide +kernel
theorem d_Snap_counts_0 : decode b_Snap_counts 0 = .ok (.aload_n 0, 1) := by decide +kernel
theorem d_Snap_counts_1 : decode b_Snap_counts 1 = .ok (.getfield 45, 3) := by decide +kernel
theorem d_Snap_counts_4 : decode b_Snap_counts 4 = .ok (.getfield 76, 3) := by decide +kernel
theorem d_Snap_counts_7 : decode b_Snap_counts 7 = .ok (.iload_n 1, 1) := by decide +kernel
theorem d_Snap_counts_8 : decode b_Snap_counts 8 = .ok (.iaload, 1) := by decide +kernel
theorem d_Snap_counts_9 : decode b_Snap_counts 9 = .ok (.aload_n 0, 1) := by decide +kernel
theorem d_Snap_counts_10 : decode b_Snap_counts 10 = .ok (.getfield 9, 3) := by decide +kernel
theorem d_Snap_counts_13 : decode b_Snap_counts 13 = .ok (.invokestatic 79, 3) := by decide +kernel
theorem d_Snap_counts_16 : decode b_Snap_counts 16 = .ok (.ireturn, 1) := by decide +kernel
theorem d_Clo_bringLive_0 : decode b_Clo_bringLive 0 = .ok (.aload_n 0, 1) := by decide +kernel
theorem d_Clo_bringLive_1 : decode b_Clo_bringLive 1 = .ok (.getfield 22, 3) := by decide +kernel
theorem d_Clo_bringLive_4 : decode b_Clo_bringLive 4 = .ok (.iload_n 1, 1) := by decide +kernel
theorem d_Clo_bringLive_5 : decode b_Clo_bringLive 5 = .ok (.invokevirtual 148, 3) := by decide +kernel
theorem d_Clo_bringLive_8 : decode b_Clo_bringLive 8 = .ok (.ifCond .eq 16, 3) := by decide +kernel
theorem d_Clo_bringLive_11 : decode b_Clo_bringLive 11 = .ok (.aload_n 0, 1) := by decide +kernel
theorem d_Clo_bringLive_12 : decode b_Clo_bringLive 12 = .ok (.bipush 20, 2) := by decide +kernel
theorem d_Clo_bringLive_14 : decode b_Clo_bringLive 14 = .ok (.iconst 2, 1) := by decide +kernel
theorem d_Clo_bringLive_15 : decode b_Clo_bringLive 15 = .ok (.iload_n 1, 1) := by decide +kernel
theorem d_Clo_bringLive_16 : decode b_Clo_bringLive 16 = .ok (.imul, 1) := by decide +kernel
theorem d_Clo_bringLive_17 : decode b_Clo_bringLive 17 = .ok (.iadd, 1) := by decide +kernel
theorem d_Clo_bringLive_18 : decode b_Clo_bringLive 18 = .ok (.iload_n 2, 1) := by decide +kernel
theorem d_Clo_bringLive_19 : decode b_Clo_bringLive 19 = .ok (.iadd, 1) := by decide +kernel
theorem d_Clo_bringLive_20 : decode b_Clo_bringLive 20 = .ok (.iload_n 3, 1) := by decide +kernel
theorem d_Clo_bringLive_21 : decode b_Clo_bringLive 21 = .ok (.invokevirtual 154, 3) := by decide +kernel
theorem d_Clo_bringLive_24 : decode b_Clo_bringLive 24 = .ok (.return_, 1) := by decide +kernel
theorem d_Snap_isDefaultOfRoot_0 : decode b_Snap_isDefaultOfRoot 0 = .ok (.aload_n 0, 1) := by decide +kernel
theorem d_Snap_isDefaultOfRoot_1 : decode b_Snap_isDefaultOfRoot 1 = .ok (.getfield 41, 3) := by decide +kernel
theorem d_Snap_isDefaultOfRoot_4 : decode b_Snap_isDefaultOfRoot 4 = .ok (.getfield 96, 3) := by decide +kernel
theorem d_Snap_isDefaultOfRoot_7 : decode b_Snap_isDefaultOfRoot 7 = .ok (.iload_n 1, 1) := by decide +kernel
theorem d_Snap_isDefaultOfRoot_8 : decode b_Snap_isDefaultOfRoot 8 = .ok (.baload, 1) := by decide +kernel
theorem d_Snap_isDefaultOfRoot_9 : decode b_Snap_isDefaultOfRoot 9 = .ok (.ifCond .eq 26, 3) := by decide +kernel
theorem d_Snap_isDefaultOfRoot_12 : decode b_Snap_isDefaultOfRoot 12 = .ok (.aload_n 0, 1) := by decide +kernel
theorem d_Snap_isDefaultOfRoot_13 : decode b_Snap_isDefaultOfRoot 13 = .ok (.getfield 18, 3) := by decide +kernel
theorem d_Snap_isDefaultOfRoot_16 : decode b_Snap_isDefaultOfRoot 16 = .ok (.aload_n 0, 1) := by decide +kernel
theorem d_Snap_isDefaultOfRoot_17 : decode b_Snap_isDefaultOfRoot 17 = .ok (.getfield 41, 3) := by decide +kernel
theorem d_Snap_isDefaultOfRoot_20 : decode b_Snap_isDefaultOfRoot 20 = .ok (.getfield 83, 3) := by decide +kernel
theorem d_Snap_isDefaultOfRoot_23 : decode b_Snap_isDefaultOfRoot 23 = .ok (.iload_n 1, 1) := by decide +kernel
theorem d_Snap_isDefaultOfRoot_24 : decode b_Snap_isDefaultOfRoot 24 = .ok (.iaload, 1) := by decide +kernel
theorem d_Snap_isDefaultOfRoot_25 : decode b_Snap_isDefaultOfRoot 25 = .ok (.invokestatic 79, 3) := by decide +kernel
theorem d_Snap_isDefaultOfRoot_28 : decode b_Snap_isDefaultOfRoot 28 = .ok (.ifCond .eq 7, 3) := by decide +kernel
theorem d_Snap_isDefaultOfRoot_31 : decode b_Snap_isDefaultOfRoot 31 = .ok (.iconst 1, 1) := by decide +kernel
theorem d_Snap_isDefaultOfRoot_32 : decode b_Snap_isDefaultOfRoot 32 = .ok (.goto 4, 3) := by decide +kernel
theorem d_Snap_isDefaultOfRoot_35 : decode b_Snap_isDefaultOfRoot 35 = .ok (.iconst 0, 1) := by decide +kernel
theorem d_Snap_isDefaultOfRoot_36 : decode b_Snap_isDefaultOfRoot 36 = .ok (.ireturn, 1) := by decide +kernel
theorem d_Clo_onStage_0 : decode b_Clo_onStage 0 = .ok (.aload_n 0, 1) := by decide +kernel
theorem d_Clo_onStage_1 : decode b_Clo_onStage 1 = .ok (.getfield 9, 3) := by decide +kernel
theorem d_Clo_onStage_4 : decode b_Clo_onStage 4 = .ok (.bipush 100, 2) := by decide +kernel
theorem d_Clo_onStage_6 : decode b_Clo_onStage 6 = .ok (.iconst 2, 1) := by decide +kernel
theorem d_Clo_onStage_7 : decode b_Clo_onStage 7 = .ok (.iload_n 1, 1) := by decide +kernel
theorem d_Clo_onStage_8 : decode b_Clo_onStage 8 = .ok (.imul, 1) := by decide +kernel
theorem d_Clo_onStage_9 : decode b_Clo_onStage 9 = .ok (.iadd, 1) := by decide +kernel
theorem d_Clo_onStage_10 : decode b_Clo_onStage 10 = .ok (.iload_n 2, 1) := by decide +kernel
theorem d_Clo_onStage_11 : decode b_Clo_onStage 11 = .ok (.iadd, 1) := by decide +kernel
theorem d_Clo_onStage_12 : decode b_Clo_onStage 12 = .ok (.iaload, 1) := by decide +kernel
theorem d_Clo_onStage_13 : decode b_Clo_onStage 13 = .ok (.ireturn, 1) := by decide +kernel
theorem d_Clo_isBy_0 : decode b_Clo_isBy 0 = .ok (.iload_n 0, 1) := by decide +kernel
theorem d_Clo_isBy_1 : decode b_Clo_isBy 1 = .ok (.ifCond .eq 12, 3) := by decide +kernel
theorem d_Clo_isBy_4 : decode b_Clo_isBy 4 = .ok (.iload_n 0, 1) := by decide +kernel
theorem d_Clo_isBy_5 : decode b_Clo_isBy 5 = .ok (.iload_n 1, 1) := by decide +kernel
theorem d_Clo_isBy_6 : decode b_Clo_isBy 6 = .ok (.if_icmp .gt 7, 3) := by decide +kernel
theorem d_Clo_isBy_9 : decode b_Clo_isBy 9 = .ok (.iconst 1, 1) := by decide +kernel
theorem d_Clo_isBy_10 : decode b_Clo_isBy 10 = .ok (.goto 4, 3) := by decide +kernel
theorem d_Clo_isBy_13 : decode b_Clo_isBy 13 = .ok (.iconst 0, 1) := by decide +kernel
theorem d_Clo_isBy_14 : decode b_Clo_isBy 14 = .ok (.ireturn, 1) := by decide +kernel
theorem d_Clo_bringOn_0 : decode b_Clo_bringOn 0 = .ok (.aload_n 0, 1) := by decide +kernel
theorem d_Clo_bringOn_1 : decode b_Clo_bringOn 1 = .ok (.bipush 100, 2) := by decide +kernel
theorem d_Clo_bringOn_3 : decode b_Clo_bringOn 3 = .ok (.iconst 2, 1) := by decide +kernel
theorem d_Clo_bringOn_4 : decode b_Clo_bringOn 4 = .ok (.iload_n 1, 1) := by decide +kernel
theorem d_Clo_bringOn_5 : decode b_Clo_bringOn 5 = .ok (.imul, 1) := by decide +kernel
theorem d_Clo_bringOn_6 : decode b_Clo_bringOn 6 = .ok (.iadd, 1) := by decide +kernel
theorem d_Clo_bringOn_7 : decode b_Clo_bringOn 7 = .ok (.iload_n 2, 1) := by decide +kernel
theorem d_Clo_bringOn_8 : decode b_Clo_bringOn 8 = .ok (.iadd, 1) := by decide +kernel
theorem d_Clo_bringOn_9 : decode b_Clo_bringOn 9 = .ok (.iload_n 3, 1) := by decide +kernel
theorem d_Clo_bringOn_10 : decode b_Clo_bringOn 10 = .ok (.invokevirtual 154, 3) := by decide +kernel
theorem d_Clo_bringOn_13 : decode b_Clo_bringOn 13 = .ok (.return_, 1) := by decide +kernel
theorem d_Clo_followThere_0 : decode b_Clo_followThere 0 = .ok (.iconst 0, 1) := by decide +kernel
theorem d_Clo_followThere_1 : decode b_Clo_followThere 1 = .ok (.istore 4, 2) := by decide +kernel
theorem d_Clo_followThere_3 : decode b_Clo_followThere 3 = .ok (.iload 4, 2) := by decide +kernel
theorem d_Clo_followThere_5 : decode b_Clo_followThere 5 = .ok (.aload_n 0, 1) := by decide +kernel
theorem d_Clo_followThere_6 : decode b_Clo_followThere 6 = .ok (.getfield 22, 3) := by decide +kernel
theorem d_Clo_followThere_9 : decode b_Clo_followThere 9 = .ok (.getfield 55, 3) := by decide +kernel
theorem d_Clo_followThere_12 : decode b_Clo_followThere 12 = .ok (.if_icmp .ge 52, 3) := by decide +kernel
theorem d_Clo_followThere_15 : decode b_Clo_followThere 15 = .ok (.aload_n 0, 1) := by decide +kernel
theorem d_Clo_followThere_16 : decode b_Clo_followThere 16 = .ok (.getfield 22, 3) := by decide +kernel
theorem d_Clo_followThere_19 : decode b_Clo_followThere 19 = .ok (.getfield 58, 3) := by decide +kernel
theorem d_Clo_followThere_22 : decode b_Clo_followThere 22 = .ok (.getfield 62, 3) := by decide +kernel
theorem d_Clo_followThere_25 : decode b_Clo_followThere 25 = .ok (.iload 4, 2) := by decide +kernel
theorem d_Clo_followThere_27 : decode b_Clo_followThere 27 = .ok (.iaload, 1) := by decide +kernel
theorem d_Clo_followThere_28 : decode b_Clo_followThere 28 = .ok (.iload_n 1, 1) := by decide +kernel
theorem d_Clo_followThere_29 : decode b_Clo_followThere 29 = .ok (.if_icmp .ne 29, 3) := by decide +kernel
theorem d_Clo_followThere_32 : decode b_Clo_followThere 32 = .ok (.aload_n 0, 1) := by decide +kernel
theorem d_Clo_followThere_33 : decode b_Clo_followThere 33 = .ok (.getfield 22, 3) := by decide +kernel
theorem d_Clo_followThere_36 : decode b_Clo_followThere 36 = .ok (.getfield 58, 3) := by decide +kernel
theorem d_Clo_followThere_39 : decode b_Clo_followThere 39 = .ok (.getfield 67, 3) := by decide +kernel
theorem d_Clo_followThere_42 : decode b_Clo_followThere 42 = .ok (.iload 4, 2) := by decide +kernel
theorem d_Clo_followThere_44 : decode b_Clo_followThere 44 = .ok (.baload, 1) := by decide +kernel
theorem d_Clo_followThere_45 : decode b_Clo_followThere 45 = .ok (.ifCond .ne 13, 3) := by decide +kernel
theorem d_Clo_followThere_48 : decode b_Clo_followThere 48 = .ok (.aload_n 0, 1) := by decide +kernel
theorem d_Clo_followThere_49 : decode b_Clo_followThere 49 = .ok (.iload 4, 2) := by decide +kernel
theorem d_Clo_followThere_51 : decode b_Clo_followThere 51 = .ok (.iload_n 2, 1) := by decide +kernel
theorem d_Clo_followThere_52 : decode b_Clo_followThere 52 = .ok (.iload_n 3, 1) := by decide +kernel
theorem d_Clo_followThere_53 : decode b_Clo_followThere 53 = .ok (.iconst 1, 1) := by decide +kernel
theorem d_Clo_followThere_54 : decode b_Clo_followThere 54 = .ok (.iadd, 1) := by decide +kernel
theorem d_Clo_followThere_55 : decode b_Clo_followThere 55 = .ok (.invokevirtual 71, 3) := by decide +kernel
theorem d_Clo_followThere_58 : decode b_Clo_followThere 58 = .ok (.iinc 4 1, 3) := by decide +kernel
theorem d_Clo_followThere_61 : decode b_Clo_followThere 61 = .ok (.goto (-58), 3) := by decide +kernel
theorem d_Clo_followThere_64 : decode b_Clo_followThere 64 = .ok (.iconst 0, 1) := by decide +kernel
theorem d_Clo_followThere_65 : decode b_Clo_followThere 65 = .ok (.istore 4, 2) := by decide +kernel
theorem d_Clo_followThere_67 : decode b_Clo_followThere 67 = .ok (.iload 4, 2) := by decide +kernel
theorem d_Clo_followThere_69 : decode b_Clo_followThere 69 = .ok (.aload_n 0, 1) := by decide +kernel
theorem d_Clo_followThere_70 : decode b_Clo_followThere 70 = .ok (.getfield 22, 3) := by decide +kernel
theorem d_Clo_followThere_73 : decode b_Clo_followThere 73 = .ok (.getfield 74, 3) := by decide +kernel
theorem d_Clo_followThere_76 : decode b_Clo_followThere 76 = .ok (.if_icmp .ge 110, 3) := by decide +kernel
theorem d_Clo_followThere_79 : decode b_Clo_followThere 79 = .ok (.aload_n 0, 1) := by decide +kernel
theorem d_Clo_followThere_80 : decode b_Clo_followThere 80 = .ok (.getfield 22, 3) := by decide +kernel
theorem d_Clo_followThere_83 : decode b_Clo_followThere 83 = .ok (.getfield 77, 3) := by decide +kernel
theorem d_Clo_followThere_86 : decode b_Clo_followThere 86 = .ok (.getfield 81, 3) := by decide +kernel
theorem d_Clo_followThere_89 : decode b_Clo_followThere 89 = .ok (.iload 4, 2) := by decide +kernel
theorem d_Clo_followThere_91 : decode b_Clo_followThere 91 = .ok (.iaload, 1) := by decide +kernel
theorem d_Clo_followThere_92 : decode b_Clo_followThere 92 = .ok (.iload_n 1, 1) := by decide +kernel
theorem d_Clo_followThere_93 : decode b_Clo_followThere 93 = .ok (.if_icmp .eq 6, 3) := by decide +kernel
theorem d_Clo_followThere_96 : decode b_Clo_followThere 96 = .ok (.goto 84, 3) := by decide +kernel
theorem d_Clo_followThere_99 : decode b_Clo_followThere 99 = .ok (.iload_n 2, 1) := by decide +kernel
theorem d_Clo_followThere_100 : decode b_Clo_followThere 100 = .ok (.ifCond .ne 19, 3) := by decide +kernel
theorem d_Clo_followThere_103 : decode b_Clo_followThere 103 = .ok (.aload_n 0, 1) := by decide +kernel
theorem d_Clo_followThere_104 : decode b_Clo_followThere 104 = .ok (.getfield 22, 3) := by decide +kernel
theorem d_Clo_followThere_107 : decode b_Clo_followThere 107 = .ok (.iload 4, 2) := by decide +kernel
theorem d_Clo_followThere_109 : decode b_Clo_followThere 109 = .ok (.invokevirtual 86, 3) := by decide +kernel
theorem d_Clo_followThere_112 : decode b_Clo_followThere 112 = .ok (.ifCond .eq 7, 3) := by decide +kernel
theorem d_Clo_followThere_115 : decode b_Clo_followThere 115 = .ok (.iconst 1, 1) := by decide +kernel
theorem d_Clo_followThere_116 : decode b_Clo_followThere 116 = .ok (.goto 4, 3) := by decide +kernel
theorem d_Clo_followThere_119 : decode b_Clo_followThere 119 = .ok (.iconst 0, 1) := by decide +kernel
theorem d_Clo_followThere_120 : decode b_Clo_followThere 120 = .ok (.istore 5, 2) := by decide +kernel
theorem d_Clo_followThere_122 : decode b_Clo_followThere 122 = .ok (.aload_n 0, 1) := by decide +kernel
theorem d_Clo_followThere_123 : decode b_Clo_followThere 123 = .ok (.getfield 22, 3) := by decide +kernel
theorem d_Clo_followThere_126 : decode b_Clo_followThere 126 = .ok (.getfield 90, 3) := by decide +kernel
theorem d_Clo_followThere_129 : decode b_Clo_followThere 129 = .ok (.getfield 94, 3) := by decide +kernel
theorem d_Clo_followThere_132 : decode b_Clo_followThere 132 = .ok (.iload_n 1, 1) := by decide +kernel
theorem d_Clo_followThere_133 : decode b_Clo_followThere 133 = .ok (.baload, 1) := by decide +kernel
theorem d_Clo_followThere_134 : decode b_Clo_followThere 134 = .ok (.ifCond .ne 23, 3) := by decide +kernel
theorem d_Clo_followThere_137 : decode b_Clo_followThere 137 = .ok (.aload_n 0, 1) := by decide +kernel
theorem d_Clo_followThere_138 : decode b_Clo_followThere 138 = .ok (.iload 4, 2) := by decide +kernel
theorem d_Clo_followThere_140 : decode b_Clo_followThere 140 = .ok (.iconst 1, 1) := by decide +kernel
theorem d_Clo_followThere_141 : decode b_Clo_followThere 141 = .ok (.iload_n 2, 1) := by decide +kernel
theorem d_Clo_followThere_142 : decode b_Clo_followThere 142 = .ok (.isub, 1) := by decide +kernel
theorem d_Clo_followThere_143 : decode b_Clo_followThere 143 = .ok (.invokevirtual 99, 3) := by decide +kernel
theorem d_Clo_followThere_146 : decode b_Clo_followThere 146 = .ok (.iload_n 3, 1) := by decide +kernel
theorem d_Clo_followThere_147 : decode b_Clo_followThere 147 = .ok (.invokestatic 103, 3) := by decide +kernel
theorem d_Clo_followThere_150 : decode b_Clo_followThere 150 = .ok (.ifCond .eq 7, 3) := by decide +kernel
theorem d_Clo_followThere_153 : decode b_Clo_followThere 153 = .ok (.iconst 1, 1) := by decide +kernel
theorem d_Clo_followThere_154 : decode b_Clo_followThere 154 = .ok (.goto 4, 3) := by decide +kernel
theorem d_Clo_followThere_157 : decode b_Clo_followThere 157 = .ok (.iconst 0, 1) := by decide +kernel
theorem d_Clo_followThere_158 : decode b_Clo_followThere 158 = .ok (.istore 6, 2) := by decide +kernel
theorem d_Clo_followThere_160 : decode b_Clo_followThere 160 = .ok (.iload 5, 2) := by decide +kernel
theorem d_Clo_followThere_162 : decode b_Clo_followThere 162 = .ok (.ifCond .ne 8, 3) := by decide +kernel
theorem d_Clo_followThere_165 : decode b_Clo_followThere 165 = .ok (.iload 6, 2) := by decide +kernel
theorem d_Clo_followThere_167 : decode b_Clo_followThere 167 = .ok (.ifCond .eq 13, 3) := by decide +kernel
theorem d_Clo_followThere_170 : decode b_Clo_followThere 170 = .ok (.aload_n 0, 1) := by decide +kernel
theorem d_Clo_followThere_171 : decode b_Clo_followThere 171 = .ok (.iload 4, 2) := by decide +kernel
theorem d_Clo_followThere_173 : decode b_Clo_followThere 173 = .ok (.iload_n 2, 1) := by decide +kernel
theorem d_Clo_followThere_174 : decode b_Clo_followThere 174 = .ok (.iload_n 3, 1) := by decide +kernel
theorem d_Clo_followThere_175 : decode b_Clo_followThere 175 = .ok (.iconst 1, 1) := by decide +kernel
theorem d_Clo_followThere_176 : decode b_Clo_followThere 176 = .ok (.iadd, 1) := by decide +kernel
theorem d_Clo_followThere_177 : decode b_Clo_followThere 177 = .ok (.invokevirtual 106, 3) := by decide +kernel
theorem d_Clo_followThere_180 : decode b_Clo_followThere 180 = .ok (.iinc 4 1, 3) := by decide +kernel
theorem d_Clo_followThere_183 : decode b_Clo_followThere 183 = .ok (.goto (-116), 3) := by decide +kernel
theorem d_Clo_followThere_186 : decode b_Clo_followThere 186 = .ok (.return_, 1) := by decide +kernel
theorem d_Users_farSide_0 : decode b_Users_farSide 0 = .ok (.aload_n 0, 1) := by decide +kernel
theorem d_Users_farSide_1 : decode b_Users_farSide 1 = .ok (.getfield 32, 3) := by decide +kernel
theorem d_Users_farSide_4 : decode b_Users_farSide 4 = .ok (.iload_n 1, 1) := by decide +kernel
theorem d_Users_farSide_5 : decode b_Users_farSide 5 = .ok (.baload, 1) := by decide +kernel
theorem d_Users_farSide_6 : decode b_Users_farSide 6 = .ok (.ifCond .eq 7, 3) := by decide +kernel
theorem d_Users_farSide_9 : decode b_Users_farSide 9 = .ok (.iconst 1, 1) := by decide +kernel
theorem d_Users_farSide_10 : decode b_Users_farSide 10 = .ok (.goto 4, 3) := by decide +kernel
theorem d_Users_farSide_13 : decode b_Users_farSide 13 = .ok (.iload_n 2, 1) := by decide +kernel
theorem d_Users_farSide_14 : decode b_Users_farSide 14 = .ok (.ireturn, 1) := by decide +kernel
theorem d_Snap_isAskedBy_0 : decode b_Snap_isAskedBy 0 = .ok (.aload_n 0, 1) := by decide +kernel
theorem d_Snap_isAskedBy_1 : decode b_Snap_isAskedBy 1 = .ok (.getfield 41, 3) := by decide +kernel
theorem d_Snap_isAskedBy_4 : decode b_Snap_isAskedBy 4 = .ok (.getfield 83, 3) := by decide +kernel
theorem d_Snap_isAskedBy_7 : decode b_Snap_isAskedBy 7 = .ok (.iload_n 2, 1) := by decide +kernel
theorem d_Snap_isAskedBy_8 : decode b_Snap_isAskedBy 8 = .ok (.iaload, 1) := by decide +kernel
theorem d_Snap_isAskedBy_9 : decode b_Snap_isAskedBy 9 = .ok (.aload_n 0, 1) := by decide +kernel
theorem d_Snap_isAskedBy_10 : decode b_Snap_isAskedBy 10 = .ok (.getfield 45, 3) := by decide +kernel
theorem d_Snap_isAskedBy_13 : decode b_Snap_isAskedBy 13 = .ok (.getfield 86, 3) := by decide +kernel
theorem d_Snap_isAskedBy_16 : decode b_Snap_isAskedBy 16 = .ok (.iload_n 1, 1) := by decide +kernel
theorem d_Snap_isAskedBy_17 : decode b_Snap_isAskedBy 17 = .ok (.iaload, 1) := by decide +kernel
theorem d_Snap_isAskedBy_18 : decode b_Snap_isAskedBy 18 = .ok (.if_icmp .ne 28, 3) := by decide +kernel
theorem d_Snap_isAskedBy_21 : decode b_Snap_isAskedBy 21 = .ok (.aload_n 0, 1) := by decide +kernel
theorem d_Snap_isAskedBy_22 : decode b_Snap_isAskedBy 22 = .ok (.getfield 33, 3) := by decide +kernel
theorem d_Snap_isAskedBy_25 : decode b_Snap_isAskedBy 25 = .ok (.iload_n 1, 1) := by decide +kernel
theorem d_Snap_isAskedBy_26 : decode b_Snap_isAskedBy 26 = .ok (.iaload, 1) := by decide +kernel
theorem d_Snap_isAskedBy_27 : decode b_Snap_isAskedBy 27 = .ok (.aload_n 0, 1) := by decide +kernel
theorem d_Snap_isAskedBy_28 : decode b_Snap_isAskedBy 28 = .ok (.getfield 41, 3) := by decide +kernel
theorem d_Snap_isAskedBy_31 : decode b_Snap_isAskedBy 31 = .ok (.getfield 89, 3) := by decide +kernel
theorem d_Snap_isAskedBy_34 : decode b_Snap_isAskedBy 34 = .ok (.iload_n 2, 1) := by decide +kernel
theorem d_Snap_isAskedBy_35 : decode b_Snap_isAskedBy 35 = .ok (.iaload, 1) := by decide +kernel
theorem d_Snap_isAskedBy_36 : decode b_Snap_isAskedBy 36 = .ok (.invokestatic 79, 3) := by decide +kernel
theorem d_Snap_isAskedBy_39 : decode b_Snap_isAskedBy 39 = .ok (.ifCond .eq 7, 3) := by decide +kernel
theorem d_Snap_isAskedBy_42 : decode b_Snap_isAskedBy 42 = .ok (.iconst 1, 1) := by decide +kernel
theorem d_Snap_isAskedBy_43 : decode b_Snap_isAskedBy 43 = .ok (.goto 4, 3) := by decide +kernel
theorem d_Snap_isAskedBy_46 : decode b_Snap_isAskedBy 46 = .ok (.iconst 0, 1) := by decide +kernel
theorem d_Snap_isAskedBy_47 : decode b_Snap_isAskedBy 47 = .ok (.ireturn, 1) := by decide +kernel
theorem d_Snap_isDefaultFor_0 : decode b_Snap_isDefaultFor 0 = .ok (.aload_n 0, 1) := by decide +kernel
theorem d_Snap_isDefaultFor_1 : decode b_Snap_isDefaultFor 1 = .ok (.getfield 41, 3) := by decide +kernel
theorem d_Snap_isDefaultFor_4 : decode b_Snap_isDefaultFor 4 = .ok (.getfield 83, 3) := by decide +kernel
theorem d_Snap_isDefaultFor_7 : decode b_Snap_isDefaultFor 7 = .ok (.iload_n 2, 1) := by decide +kernel
theorem d_Snap_isDefaultFor_8 : decode b_Snap_isDefaultFor 8 = .ok (.iaload, 1) := by decide +kernel
theorem d_Snap_isDefaultFor_9 : decode b_Snap_isDefaultFor 9 = .ok (.aload_n 0, 1) := by decide +kernel
theorem d_Snap_isDefaultFor_10 : decode b_Snap_isDefaultFor 10 = .ok (.getfield 45, 3) := by decide +kernel
theorem d_Snap_isDefaultFor_13 : decode b_Snap_isDefaultFor 13 = .ok (.getfield 86, 3) := by decide +kernel
theorem d_Snap_isDefaultFor_16 : decode b_Snap_isDefaultFor 16 = .ok (.iload_n 1, 1) := by decide +kernel
theorem d_Snap_isDefaultFor_17 : decode b_Snap_isDefaultFor 17 = .ok (.iaload, 1) := by decide +kernel
theorem d_Snap_isDefaultFor_18 : decode b_Snap_isDefaultFor 18 = .ok (.if_icmp .ne 31, 3) := by decide +kernel
theorem d_Snap_isDefaultFor_21 : decode b_Snap_isDefaultFor 21 = .ok (.aload_n 0, 1) := by decide +kernel
theorem d_Snap_isDefaultFor_22 : decode b_Snap_isDefaultFor 22 = .ok (.getfield 45, 3) := by decide +kernel
theorem d_Snap_isDefaultFor_25 : decode b_Snap_isDefaultFor 25 = .ok (.getfield 92, 3) := by decide +kernel
theorem d_Snap_isDefaultFor_28 : decode b_Snap_isDefaultFor 28 = .ok (.iload_n 1, 1) := by decide +kernel
theorem d_Snap_isDefaultFor_29 : decode b_Snap_isDefaultFor 29 = .ok (.baload, 1) := by decide +kernel
theorem d_Snap_isDefaultFor_30 : decode b_Snap_isDefaultFor 30 = .ok (.ifCond .eq 19, 3) := by decide +kernel
theorem d_Snap_isDefaultFor_33 : decode b_Snap_isDefaultFor 33 = .ok (.aload_n 0, 1) := by decide +kernel
theorem d_Snap_isDefaultFor_34 : decode b_Snap_isDefaultFor 34 = .ok (.getfield 41, 3) := by decide +kernel
theorem d_Snap_isDefaultFor_37 : decode b_Snap_isDefaultFor 37 = .ok (.getfield 96, 3) := by decide +kernel
theorem d_Snap_isDefaultFor_40 : decode b_Snap_isDefaultFor 40 = .ok (.iload_n 2, 1) := by decide +kernel
theorem d_Snap_isDefaultFor_41 : decode b_Snap_isDefaultFor 41 = .ok (.baload, 1) := by decide +kernel
theorem d_Snap_isDefaultFor_42 : decode b_Snap_isDefaultFor 42 = .ok (.ifCond .eq 7, 3) := by decide +kernel
theorem d_Snap_isDefaultFor_45 : decode b_Snap_isDefaultFor 45 = .ok (.iconst 1, 1) := by decide +kernel
theorem d_Snap_isDefaultFor_46 : decode b_Snap_isDefaultFor 46 = .ok (.goto 4, 3) := by decide +kernel
theorem d_Snap_isDefaultFor_49 : decode b_Snap_isDefaultFor 49 = .ok (.iconst 0, 1) := by decide +kernel
theorem d_Snap_isDefaultFor_50 : decode b_Snap_isDefaultFor 50 = .ok (.ireturn, 1) := by decide +kernel
theorem d_Clo_followLive_0 : decode b_Clo_followLive 0 = .ok (.aload_n 0, 1) := by decide +kernel
theorem d_Clo_followLive_1 : decode b_Clo_followLive 1 = .ok (.getfield 22, 3) := by decide +kernel
theorem d_Clo_followLive_4 : decode b_Clo_followLive 4 = .ok (.getfield 58, 3) := by decide +kernel
theorem d_Clo_followLive_7 : decode b_Clo_followLive 7 = .ok (.iload_n 1, 1) := by decide +kernel
theorem d_Clo_followLive_8 : decode b_Clo_followLive 8 = .ok (.iload_n 2, 1) := by decide +kernel
theorem d_Clo_followLive_9 : decode b_Clo_followLive 9 = .ok (.invokevirtual 109, 3) := by decide +kernel
theorem d_Clo_followLive_12 : decode b_Clo_followLive 12 = .ok (.istore 4, 2) := by decide +kernel
theorem d_Clo_followLive_14 : decode b_Clo_followLive 14 = .ok (.aload_n 0, 1) := by decide +kernel
theorem d_Clo_followLive_15 : decode b_Clo_followLive 15 = .ok (.aload_n 0, 1) := by decide +kernel
theorem d_Clo_followLive_16 : decode b_Clo_followLive 16 = .ok (.getfield 22, 3) := by decide +kernel
theorem d_Clo_followLive_19 : decode b_Clo_followLive 19 = .ok (.getfield 58, 3) := by decide +kernel
theorem d_Clo_followLive_22 : decode b_Clo_followLive 22 = .ok (.getfield 112, 3) := by decide +kernel
theorem d_Clo_followLive_25 : decode b_Clo_followLive 25 = .ok (.iload_n 1, 1) := by decide +kernel
theorem d_Clo_followLive_26 : decode b_Clo_followLive 26 = .ok (.iaload, 1) := by decide +kernel
theorem d_Clo_followLive_27 : decode b_Clo_followLive 27 = .ok (.iload 4, 2) := by decide +kernel
theorem d_Clo_followLive_29 : decode b_Clo_followLive 29 = .ok (.iload_n 3, 1) := by decide +kernel
theorem d_Clo_followLive_30 : decode b_Clo_followLive 30 = .ok (.iconst 1, 1) := by decide +kernel
theorem d_Clo_followLive_31 : decode b_Clo_followLive 31 = .ok (.iadd, 1) := by decide +kernel
theorem d_Clo_followLive_32 : decode b_Clo_followLive 32 = .ok (.invokevirtual 38, 3) := by decide +kernel
theorem d_Clo_followLive_35 : decode b_Clo_followLive 35 = .ok (.iconst 0, 1) := by decide +kernel
theorem d_Clo_followLive_36 : decode b_Clo_followLive 36 = .ok (.istore 5, 2) := by decide +kernel
theorem d_Clo_followLive_38 : decode b_Clo_followLive 38 = .ok (.iload 5, 2) := by decide +kernel
theorem d_Clo_followLive_40 : decode b_Clo_followLive 40 = .ok (.aload_n 0, 1) := by decide +kernel
theorem d_Clo_followLive_41 : decode b_Clo_followLive 41 = .ok (.getfield 22, 3) := by decide +kernel
theorem d_Clo_followLive_44 : decode b_Clo_followLive 44 = .ok (.getfield 74, 3) := by decide +kernel
theorem d_Clo_followLive_47 : decode b_Clo_followLive 47 = .ok (.if_icmp .ge 46, 3) := by decide +kernel
theorem d_Clo_followLive_50 : decode b_Clo_followLive 50 = .ok (.aload_n 0, 1) := by decide +kernel
theorem d_Clo_followLive_51 : decode b_Clo_followLive 51 = .ok (.getfield 22, 3) := by decide +kernel
theorem d_Clo_followLive_54 : decode b_Clo_followLive 54 = .ok (.iload_n 1, 1) := by decide +kernel
theorem d_Clo_followLive_55 : decode b_Clo_followLive 55 = .ok (.iload 5, 2) := by decide +kernel
theorem d_Clo_followLive_57 : decode b_Clo_followLive 57 = .ok (.invokevirtual 115, 3) := by decide +kernel
theorem d_Clo_followLive_60 : decode b_Clo_followLive 60 = .ok (.ifCond .ne 16, 3) := by decide +kernel
theorem d_Clo_followLive_63 : decode b_Clo_followLive 63 = .ok (.aload_n 0, 1) := by decide +kernel
theorem d_Clo_followLive_64 : decode b_Clo_followLive 64 = .ok (.getfield 22, 3) := by decide +kernel
theorem d_Clo_followLive_67 : decode b_Clo_followLive 67 = .ok (.iload_n 1, 1) := by decide +kernel
theorem d_Clo_followLive_68 : decode b_Clo_followLive 68 = .ok (.iload 5, 2) := by decide +kernel
theorem d_Clo_followLive_70 : decode b_Clo_followLive 70 = .ok (.invokevirtual 118, 3) := by decide +kernel
theorem d_Clo_followLive_73 : decode b_Clo_followLive 73 = .ok (.ifCond .eq 14, 3) := by decide +kernel
theorem d_Clo_followLive_76 : decode b_Clo_followLive 76 = .ok (.aload_n 0, 1) := by decide +kernel
theorem d_Clo_followLive_77 : decode b_Clo_followLive 77 = .ok (.iload 5, 2) := by decide +kernel
theorem d_Clo_followLive_79 : decode b_Clo_followLive 79 = .ok (.iload 4, 2) := by decide +kernel
theorem d_Clo_followLive_81 : decode b_Clo_followLive 81 = .ok (.iload_n 3, 1) := by decide +kernel
theorem d_Clo_followLive_82 : decode b_Clo_followLive 82 = .ok (.iconst 1, 1) := by decide +kernel
theorem d_Clo_followLive_83 : decode b_Clo_followLive 83 = .ok (.iadd, 1) := by decide +kernel
theorem d_Clo_followLive_84 : decode b_Clo_followLive 84 = .ok (.invokevirtual 106, 3) := by decide +kernel
theorem d_Clo_followLive_87 : decode b_Clo_followLive 87 = .ok (.iinc 5 1, 3) := by decide +kernel
theorem d_Clo_followLive_90 : decode b_Clo_followLive 90 = .ok (.goto (-52), 3) := by decide +kernel
theorem d_Clo_followLive_93 : decode b_Clo_followLive 93 = .ok (.iconst 0, 1) := by decide +kernel
theorem d_Clo_followLive_94 : decode b_Clo_followLive 94 = .ok (.istore 5, 2) := by decide +kernel
theorem d_Clo_followLive_96 : decode b_Clo_followLive 96 = .ok (.iload 5, 2) := by decide +kernel
theorem d_Clo_followLive_98 : decode b_Clo_followLive 98 = .ok (.aload_n 0, 1) := by decide +kernel
theorem d_Clo_followLive_99 : decode b_Clo_followLive 99 = .ok (.getfield 22, 3) := by decide +kernel
theorem d_Clo_followLive_102 : decode b_Clo_followLive 102 = .ok (.getfield 121, 3) := by decide +kernel
theorem d_Clo_followLive_105 : decode b_Clo_followLive 105 = .ok (.if_icmp .ge 90, 3) := by decide +kernel
theorem d_Clo_followLive_108 : decode b_Clo_followLive 108 = .ok (.aload_n 0, 1) := by decide +kernel
theorem d_Clo_followLive_109 : decode b_Clo_followLive 109 = .ok (.getfield 22, 3) := by decide +kernel
theorem d_Clo_followLive_112 : decode b_Clo_followLive 112 = .ok (.getfield 124, 3) := by decide +kernel
theorem d_Clo_followLive_115 : decode b_Clo_followLive 115 = .ok (.getfield 128, 3) := by decide +kernel
theorem d_Clo_followLive_118 : decode b_Clo_followLive 118 = .ok (.iload 5, 2) := by decide +kernel
theorem d_Clo_followLive_120 : decode b_Clo_followLive 120 = .ok (.iaload, 1) := by decide +kernel
theorem d_Clo_followLive_121 : decode b_Clo_followLive 121 = .ok (.iconst 3, 1) := by decide +kernel
theorem d_Clo_followLive_122 : decode b_Clo_followLive 122 = .ok (.if_icmp .ne 67, 3) := by decide +kernel
theorem d_Clo_followLive_125 : decode b_Clo_followLive 125 = .ok (.aload_n 0, 1) := by decide +kernel
theorem d_Clo_followLive_126 : decode b_Clo_followLive 126 = .ok (.getfield 22, 3) := by decide +kernel
theorem d_Clo_followLive_129 : decode b_Clo_followLive 129 = .ok (.getfield 124, 3) := by decide +kernel
theorem d_Clo_followLive_132 : decode b_Clo_followLive 132 = .ok (.getfield 133, 3) := by decide +kernel
theorem d_Clo_followLive_135 : decode b_Clo_followLive 135 = .ok (.iload 5, 2) := by decide +kernel
theorem d_Clo_followLive_137 : decode b_Clo_followLive 137 = .ok (.iaload, 1) := by decide +kernel
theorem d_Clo_followLive_138 : decode b_Clo_followLive 138 = .ok (.iload_n 1, 1) := by decide +kernel
theorem d_Clo_followLive_139 : decode b_Clo_followLive 139 = .ok (.if_icmp .ne 50, 3) := by decide +kernel
theorem d_Clo_followLive_142 : decode b_Clo_followLive 142 = .ok (.aload_n 0, 1) := by decide +kernel
theorem d_Clo_followLive_143 : decode b_Clo_followLive 143 = .ok (.aload_n 0, 1) := by decide +kernel
theorem d_Clo_followLive_144 : decode b_Clo_followLive 144 = .ok (.getfield 22, 3) := by decide +kernel
theorem d_Clo_followLive_147 : decode b_Clo_followLive 147 = .ok (.getfield 124, 3) := by decide +kernel
theorem d_Clo_followLive_150 : decode b_Clo_followLive 150 = .ok (.getfield 136, 3) := by decide +kernel
theorem d_Clo_followLive_153 : decode b_Clo_followLive 153 = .ok (.iload 5, 2) := by decide +kernel
theorem d_Clo_followLive_155 : decode b_Clo_followLive 155 = .ok (.iaload, 1) := by decide +kernel
theorem d_Clo_followLive_156 : decode b_Clo_followLive 156 = .ok (.iload_n 2, 1) := by decide +kernel
theorem d_Clo_followLive_157 : decode b_Clo_followLive 157 = .ok (.invokevirtual 99, 3) := by decide +kernel
theorem d_Clo_followLive_160 : decode b_Clo_followLive 160 = .ok (.iload_n 3, 1) := by decide +kernel
theorem d_Clo_followLive_161 : decode b_Clo_followLive 161 = .ok (.invokestatic 103, 3) := by decide +kernel
theorem d_Clo_followLive_164 : decode b_Clo_followLive 164 = .ok (.ifCond .eq 25, 3) := by decide +kernel
theorem d_Clo_followLive_167 : decode b_Clo_followLive 167 = .ok (.aload_n 0, 1) := by decide +kernel
theorem d_Clo_followLive_168 : decode b_Clo_followLive 168 = .ok (.aload_n 0, 1) := by decide +kernel
theorem d_Clo_followLive_169 : decode b_Clo_followLive 169 = .ok (.getfield 22, 3) := by decide +kernel
theorem d_Clo_followLive_172 : decode b_Clo_followLive 172 = .ok (.getfield 124, 3) := by decide +kernel
theorem d_Clo_followLive_175 : decode b_Clo_followLive 175 = .ok (.getfield 139, 3) := by decide +kernel
theorem d_Clo_followLive_178 : decode b_Clo_followLive 178 = .ok (.iload 5, 2) := by decide +kernel
theorem d_Clo_followLive_180 : decode b_Clo_followLive 180 = .ok (.iaload, 1) := by decide +kernel
theorem d_Clo_followLive_181 : decode b_Clo_followLive 181 = .ok (.iload 4, 2) := by decide +kernel
theorem d_Clo_followLive_183 : decode b_Clo_followLive 183 = .ok (.iload_n 3, 1) := by decide +kernel
theorem d_Clo_followLive_184 : decode b_Clo_followLive 184 = .ok (.iconst 1, 1) := by decide +kernel
theorem d_Clo_followLive_185 : decode b_Clo_followLive 185 = .ok (.iadd, 1) := by decide +kernel
theorem d_Clo_followLive_186 : decode b_Clo_followLive 186 = .ok (.invokevirtual 106, 3) := by decide +kernel
theorem d_Clo_followLive_189 : decode b_Clo_followLive 189 = .ok (.iinc 5 1, 3) := by decide +kernel
theorem d_Clo_followLive_192 : decode b_Clo_followLive 192 = .ok (.goto (-96), 3) := by decide +kernel
theorem d_Clo_followLive_195 : decode b_Clo_followLive 195 = .ok (.return_, 1) := by decide +kernel
theorem d_Clo_thereStage_0 : decode b_Clo_thereStage 0 = .ok (.aload_n 0, 1) := by decide +kernel
theorem d_Clo_thereStage_1 : decode b_Clo_thereStage 1 = .ok (.getfield 9, 3) := by decide +kernel
theorem d_Clo_thereStage_4 : decode b_Clo_thereStage 4 = .ok (.iconst 2, 1) := by decide +kernel
theorem d_Clo_thereStage_5 : decode b_Clo_thereStage 5 = .ok (.iload_n 1, 1) := by decide +kernel
theorem d_Clo_thereStage_6 : decode b_Clo_thereStage 6 = .ok (.imul, 1) := by decide +kernel
theorem d_Clo_thereStage_7 : decode b_Clo_thereStage 7 = .ok (.iload_n 2, 1) := by decide +kernel
theorem d_Clo_thereStage_8 : decode b_Clo_thereStage 8 = .ok (.iadd, 1) := by decide +kernel
theorem d_Clo_thereStage_9 : decode b_Clo_thereStage 9 = .ok (.iaload, 1) := by decide +kernel
theorem d_Clo_thereStage_10 : decode b_Clo_thereStage 10 = .ok (.ireturn, 1) := by decide +kernel
theorem d_Clo_liveStage_0 : decode b_Clo_liveStage 0 = .ok (.aload_n 0, 1) := by decide +kernel
theorem d_Clo_liveStage_1 : decode b_Clo_liveStage 1 = .ok (.getfield 9, 3) := by decide +kernel
theorem d_Clo_liveStage_4 : decode b_Clo_liveStage 4 = .ok (.bipush 20, 2) := by decide +kernel
theorem d_Clo_liveStage_6 : decode b_Clo_liveStage 6 = .ok (.iconst 2, 1) := by decide +kernel
theorem d_Clo_liveStage_7 : decode b_Clo_liveStage 7 = .ok (.iload_n 1, 1) := by decide +kernel
theorem d_Clo_liveStage_8 : decode b_Clo_liveStage 8 = .ok (.imul, 1) := by decide +kernel
theorem d_Clo_liveStage_9 : decode b_Clo_liveStage 9 = .ok (.iadd, 1) := by decide +kernel
theorem d_Clo_liveStage_10 : decode b_Clo_liveStage 10 = .ok (.iload_n 2, 1) := by decide +kernel
theorem d_Clo_liveStage_11 : decode b_Clo_liveStage 11 = .ok (.iadd, 1) := by decide +kernel
theorem d_Clo_liveStage_12 : decode b_Clo_liveStage 12 = .ok (.iaload, 1) := by decide +kernel
theorem d_Clo_liveStage_13 : decode b_Clo_liveStage 13 = .ok (.ireturn, 1) := by decide +kernel
theorem d_Clo_followTurn_0 : decode b_Clo_followTurn 0 = .ok (.aload_n 0, 1) := by decide +kernel
theorem d_Clo_followTurn_1 : decode b_Clo_followTurn 1 = .ok (.getfield 22, 3) := by decide +kernel
theorem d_Clo_followTurn_4 : decode b_Clo_followTurn 4 = .ok (.getfield 124, 3) := by decide +kernel
theorem d_Clo_followTurn_7 : decode b_Clo_followTurn 7 = .ok (.getfield 128, 3) := by decide +kernel
theorem d_Clo_followTurn_10 : decode b_Clo_followTurn 10 = .ok (.iload_n 1, 1) := by decide +kernel
theorem d_Clo_followTurn_11 : decode b_Clo_followTurn 11 = .ok (.iaload, 1) := by decide +kernel
theorem d_Clo_followTurn_12 : decode b_Clo_followTurn 12 = .ok (.istore 4, 2) := by decide +kernel
theorem d_Clo_followTurn_14 : decode b_Clo_followTurn 14 = .ok (.aload_n 0, 1) := by decide +kernel
theorem d_Clo_followTurn_15 : decode b_Clo_followTurn 15 = .ok (.getfield 22, 3) := by decide +kernel
theorem d_Clo_followTurn_18 : decode b_Clo_followTurn 18 = .ok (.getfield 124, 3) := by decide +kernel
theorem d_Clo_followTurn_21 : decode b_Clo_followTurn 21 = .ok (.getfield 139, 3) := by decide +kernel
theorem d_Clo_followTurn_24 : decode b_Clo_followTurn 24 = .ok (.iload_n 1, 1) := by decide +kernel
theorem d_Clo_followTurn_25 : decode b_Clo_followTurn 25 = .ok (.iaload, 1) := by decide +kernel
theorem d_Clo_followTurn_26 : decode b_Clo_followTurn 26 = .ok (.istore 5, 2) := by decide +kernel
theorem d_Clo_followTurn_28 : decode b_Clo_followTurn 28 = .ok (.iload 4, 2) := by decide +kernel
theorem d_Clo_followTurn_30 : decode b_Clo_followTurn 30 = .ok (.ifCond .ne 14, 3) := by decide +kernel
theorem d_Clo_followTurn_33 : decode b_Clo_followTurn 33 = .ok (.aload_n 0, 1) := by decide +kernel
theorem d_Clo_followTurn_34 : decode b_Clo_followTurn 34 = .ok (.iload 5, 2) := by decide +kernel
theorem d_Clo_followTurn_36 : decode b_Clo_followTurn 36 = .ok (.iload_n 2, 1) := by decide +kernel
theorem d_Clo_followTurn_37 : decode b_Clo_followTurn 37 = .ok (.iload_n 3, 1) := by decide +kernel
theorem d_Clo_followTurn_38 : decode b_Clo_followTurn 38 = .ok (.iconst 1, 1) := by decide +kernel
theorem d_Clo_followTurn_39 : decode b_Clo_followTurn 39 = .ok (.iadd, 1) := by decide +kernel
theorem d_Clo_followTurn_40 : decode b_Clo_followTurn 40 = .ok (.invokevirtual 106, 3) := by decide +kernel
theorem d_Clo_followTurn_43 : decode b_Clo_followTurn 43 = .ok (.return_, 1) := by decide +kernel
theorem d_Clo_followTurn_44 : decode b_Clo_followTurn 44 = .ok (.aload_n 0, 1) := by decide +kernel
theorem d_Clo_followTurn_45 : decode b_Clo_followTurn 45 = .ok (.getfield 22, 3) := by decide +kernel
theorem d_Clo_followTurn_48 : decode b_Clo_followTurn 48 = .ok (.getfield 124, 3) := by decide +kernel
theorem d_Clo_followTurn_51 : decode b_Clo_followTurn 51 = .ok (.getfield 133, 3) := by decide +kernel
theorem d_Clo_followTurn_54 : decode b_Clo_followTurn 54 = .ok (.iload_n 1, 1) := by decide +kernel
theorem d_Clo_followTurn_55 : decode b_Clo_followTurn 55 = .ok (.iaload, 1) := by decide +kernel
theorem d_Clo_followTurn_56 : decode b_Clo_followTurn 56 = .ok (.istore 6, 2) := by decide +kernel
theorem d_Clo_followTurn_58 : decode b_Clo_followTurn 58 = .ok (.aload_n 0, 1) := by decide +kernel
theorem d_Clo_followTurn_59 : decode b_Clo_followTurn 59 = .ok (.getfield 22, 3) := by decide +kernel
theorem d_Clo_followTurn_62 : decode b_Clo_followTurn 62 = .ok (.iload 6, 2) := by decide +kernel
theorem d_Clo_followTurn_64 : decode b_Clo_followTurn 64 = .ok (.invokevirtual 148, 3) := by decide +kernel
theorem d_Clo_followTurn_67 : decode b_Clo_followTurn 67 = .ok (.ifCond .ne 4, 3) := by decide +kernel
theorem d_Clo_followTurn_70 : decode b_Clo_followTurn 70 = .ok (.return_, 1) := by decide +kernel
theorem d_Clo_followTurn_71 : decode b_Clo_followTurn 71 = .ok (.iload 4, 2) := by decide +kernel
theorem d_Clo_followTurn_73 : decode b_Clo_followTurn 73 = .ok (.iconst 1, 1) := by decide +kernel
theorem d_Clo_followTurn_74 : decode b_Clo_followTurn 74 = .ok (.if_icmp .eq 9, 3) := by decide +kernel
theorem d_Clo_followTurn_77 : decode b_Clo_followTurn 77 = .ok (.iload 4, 2) := by decide +kernel
theorem d_Clo_followTurn_79 : decode b_Clo_followTurn 79 = .ok (.iconst 2, 1) := by decide +kernel
theorem d_Clo_followTurn_80 : decode b_Clo_followTurn 80 = .ok (.if_icmp .ne 13, 3) := by decide +kernel
theorem d_Clo_followTurn_83 : decode b_Clo_followTurn 83 = .ok (.aload_n 0, 1) := by decide +kernel
theorem d_Clo_followTurn_84 : decode b_Clo_followTurn 84 = .ok (.iload 6, 2) := by decide +kernel
theorem d_Clo_followTurn_86 : decode b_Clo_followTurn 86 = .ok (.iload_n 2, 1) := by decide +kernel
theorem d_Clo_followTurn_87 : decode b_Clo_followTurn 87 = .ok (.iload_n 3, 1) := by decide +kernel
theorem d_Clo_followTurn_88 : decode b_Clo_followTurn 88 = .ok (.iconst 1, 1) := by decide +kernel
theorem d_Clo_followTurn_89 : decode b_Clo_followTurn 89 = .ok (.iadd, 1) := by decide +kernel
theorem d_Clo_followTurn_90 : decode b_Clo_followTurn 90 = .ok (.invokevirtual 71, 3) := by decide +kernel
theorem d_Clo_followTurn_93 : decode b_Clo_followTurn 93 = .ok (.iload 4, 2) := by decide +kernel
theorem d_Clo_followTurn_95 : decode b_Clo_followTurn 95 = .ok (.iconst 2, 1) := by decide +kernel
theorem d_Clo_followTurn_96 : decode b_Clo_followTurn 96 = .ok (.if_icmp .eq 23, 3) := by decide +kernel
theorem d_Clo_followTurn_99 : decode b_Clo_followTurn 99 = .ok (.iload 4, 2) := by decide +kernel
theorem d_Clo_followTurn_101 : decode b_Clo_followTurn 101 = .ok (.iconst 3, 1) := by decide +kernel
theorem d_Clo_followTurn_102 : decode b_Clo_followTurn 102 = .ok (.if_icmp .ne 39, 3) := by decide +kernel
theorem d_Clo_followTurn_105 : decode b_Clo_followTurn 105 = .ok (.aload_n 0, 1) := by decide +kernel
theorem d_Clo_followTurn_106 : decode b_Clo_followTurn 106 = .ok (.iload 6, 2) := by decide +kernel
theorem d_Clo_followTurn_108 : decode b_Clo_followTurn 108 = .ok (.iload_n 2, 1) := by decide +kernel
theorem d_Clo_followTurn_109 : decode b_Clo_followTurn 109 = .ok (.invokevirtual 151, 3) := by decide +kernel
theorem d_Clo_followTurn_112 : decode b_Clo_followTurn 112 = .ok (.iload_n 3, 1) := by decide +kernel
theorem d_Clo_followTurn_113 : decode b_Clo_followTurn 113 = .ok (.invokestatic 103, 3) := by decide +kernel
theorem d_Clo_followTurn_116 : decode b_Clo_followTurn 116 = .ok (.ifCond .eq 25, 3) := by decide +kernel
theorem d_Clo_followTurn_119 : decode b_Clo_followTurn 119 = .ok (.aload_n 0, 1) := by decide +kernel
theorem d_Clo_followTurn_120 : decode b_Clo_followTurn 120 = .ok (.iload 5, 2) := by decide +kernel
theorem d_Clo_followTurn_122 : decode b_Clo_followTurn 122 = .ok (.aload_n 0, 1) := by decide +kernel
theorem d_Clo_followTurn_123 : decode b_Clo_followTurn 123 = .ok (.getfield 22, 3) := by decide +kernel
theorem d_Clo_followTurn_126 : decode b_Clo_followTurn 126 = .ok (.getfield 58, 3) := by decide +kernel
theorem d_Clo_followTurn_129 : decode b_Clo_followTurn 129 = .ok (.iload 6, 2) := by decide +kernel
theorem d_Clo_followTurn_131 : decode b_Clo_followTurn 131 = .ok (.iload_n 2, 1) := by decide +kernel
theorem d_Clo_followTurn_132 : decode b_Clo_followTurn 132 = .ok (.invokevirtual 109, 3) := by decide +kernel
theorem d_Clo_followTurn_135 : decode b_Clo_followTurn 135 = .ok (.iload_n 3, 1) := by decide +kernel
theorem d_Clo_followTurn_136 : decode b_Clo_followTurn 136 = .ok (.iconst 1, 1) := by decide +kernel
theorem d_Clo_followTurn_137 : decode b_Clo_followTurn 137 = .ok (.iadd, 1) := by decide +kernel
theorem d_Clo_followTurn_138 : decode b_Clo_followTurn 138 = .ok (.invokevirtual 106, 3) := by decide +kernel
theorem d_Clo_followTurn_141 : decode b_Clo_followTurn 141 = .ok (.return_, 1) := by decide +kernel
