theorem d_Mod_asks_0 : decode b_Mod_asks 0 = .ok (.aload_n 0, 1) := by decide +kernel
theorem d_Mod_asks_1 : decode b_Mod_asks 1 = .ok (.iconst 0, 1) := by decide +kernel
theorem d_Mod_asks_2 : decode b_Mod_asks 2 = .ok (.putfield 102, 3) := by decide +kernel
theorem d_Mod_asks_5 : decode b_Mod_asks 5 = .ok (.aload_n 0, 1) := by decide +kernel
theorem d_Mod_asks_6 : decode b_Mod_asks 6 = .ok (.iload_n 1, 1) := by decide +kernel
theorem d_Mod_asks_7 : decode b_Mod_asks 7 = .ok (.invokevirtual 130, 3) := by decide +kernel
theorem d_Mod_asks_10 : decode b_Mod_asks 10 = .ok (.ifCond .ne 5, 3) := by decide +kernel
theorem d_Mod_asks_13 : decode b_Mod_asks 13 = .ok (.iconst (-1), 1) := by decide +kernel
theorem d_Mod_asks_14 : decode b_Mod_asks 14 = .ok (.ireturn, 1) := by decide +kernel
theorem d_Mod_asks_15 : decode b_Mod_asks 15 = .ok (.aload_n 0, 1) := by decide +kernel
theorem d_Mod_asks_16 : decode b_Mod_asks 16 = .ok (.aload_n 0, 1) := by decide +kernel
theorem d_Mod_asks_17 : decode b_Mod_asks 17 = .ok (.getfield 35, 3) := by decide +kernel
theorem d_Mod_asks_20 : decode b_Mod_asks 20 = .ok (.iload_n 1, 1) := by decide +kernel
theorem d_Mod_asks_21 : decode b_Mod_asks 21 = .ok (.iaload, 1) := by decide +kernel
theorem d_Mod_asks_22 : decode b_Mod_asks 22 = .ok (.iload_n 2, 1) := by decide +kernel
theorem d_Mod_asks_23 : decode b_Mod_asks 23 = .ok (.invokevirtual 126, 3) := by decide +kernel
theorem d_Mod_asks_26 : decode b_Mod_asks 26 = .ok (.istore_n 3, 1) := by decide +kernel
theorem d_Mod_asks_27 : decode b_Mod_asks 27 = .ok (.iload_n 3, 1) := by decide +kernel
theorem d_Mod_asks_28 : decode b_Mod_asks 28 = .ok (.iconst (-1), 1) := by decide +kernel
theorem d_Mod_asks_29 : decode b_Mod_asks 29 = .ok (.if_icmp .ne 6, 3) := by decide +kernel
theorem d_Mod_asks_32 : decode b_Mod_asks 32 = .ok (.bipush (-2), 2) := by decide +kernel
theorem d_Mod_asks_34 : decode b_Mod_asks 34 = .ok (.ireturn, 1) := by decide +kernel
theorem d_Mod_asks_35 : decode b_Mod_asks 35 = .ok (.aload_n 0, 1) := by decide +kernel
theorem d_Mod_asks_36 : decode b_Mod_asks 36 = .ok (.iload_n 1, 1) := by decide +kernel
theorem d_Mod_asks_37 : decode b_Mod_asks 37 = .ok (.iload_n 3, 1) := by decide +kernel
theorem d_Mod_asks_38 : decode b_Mod_asks 38 = .ok (.aload_n 0, 1) := by decide +kernel
theorem d_Mod_asks_39 : decode b_Mod_asks 39 = .ok (.getfield 133, 3) := by decide +kernel
theorem d_Mod_asks_42 : decode b_Mod_asks 42 = .ok (.invokevirtual 136, 3) := by decide +kernel
theorem d_Mod_asks_45 : decode b_Mod_asks 45 = .ok (.iconst (-1), 1) := by decide +kernel
theorem d_Mod_asks_46 : decode b_Mod_asks 46 = .ok (.if_icmp .eq 6, 3) := by decide +kernel
theorem d_Mod_asks_49 : decode b_Mod_asks 49 = .ok (.bipush (-3), 2) := by decide +kernel
theorem d_Mod_asks_51 : decode b_Mod_asks 51 = .ok (.ireturn, 1) := by decide +kernel
theorem d_Mod_asks_52 : decode b_Mod_asks 52 = .ok (.aload_n 0, 1) := by decide +kernel
theorem d_Mod_asks_53 : decode b_Mod_asks 53 = .ok (.getfield 50, 3) := by decide +kernel
theorem d_Mod_asks_56 : decode b_Mod_asks 56 = .ok (.aload_n 0, 1) := by decide +kernel
theorem d_Mod_asks_57 : decode b_Mod_asks 57 = .ok (.getfield 133, 3) := by decide +kernel
theorem d_Mod_asks_60 : decode b_Mod_asks 60 = .ok (.iload_n 1, 1) := by decide +kernel
theorem d_Mod_asks_61 : decode b_Mod_asks 61 = .ok (.iastore, 1) := by decide +kernel
theorem d_Mod_asks_62 : decode b_Mod_asks 62 = .ok (.aload_n 0, 1) := by decide +kernel
theorem d_Mod_asks_63 : decode b_Mod_asks 63 = .ok (.getfield 53, 3) := by decide +kernel
theorem d_Mod_asks_66 : decode b_Mod_asks 66 = .ok (.aload_n 0, 1) := by decide +kernel
theorem d_Mod_asks_67 : decode b_Mod_asks 67 = .ok (.getfield 133, 3) := by decide +kernel
theorem d_Mod_asks_70 : decode b_Mod_asks 70 = .ok (.iload_n 3, 1) := by decide +kernel
theorem d_Mod_asks_71 : decode b_Mod_asks 71 = .ok (.iastore, 1) := by decide +kernel
theorem d_Mod_asks_72 : decode b_Mod_asks 72 = .ok (.aload_n 0, 1) := by decide +kernel
theorem d_Mod_asks_73 : decode b_Mod_asks 73 = .ok (.dup, 1) := by decide +kernel
theorem d_Mod_asks_74 : decode b_Mod_asks 74 = .ok (.getfield 133, 3) := by decide +kernel
theorem d_Mod_asks_77 : decode b_Mod_asks 77 = .ok (.iconst 1, 1) := by decide +kernel
theorem d_Mod_asks_78 : decode b_Mod_asks 78 = .ok (.iadd, 1) := by decide +kernel
theorem d_Mod_asks_79 : decode b_Mod_asks 79 = .ok (.putfield 133, 3) := by decide +kernel
theorem d_Mod_asks_82 : decode b_Mod_asks 82 = .ok (.aload_n 0, 1) := by decide +kernel
theorem d_Mod_asks_83 : decode b_Mod_asks 83 = .ok (.iconst 1, 1) := by decide +kernel
theorem d_Mod_asks_84 : decode b_Mod_asks 84 = .ok (.putfield 114, 3) := by decide +kernel
theorem d_Mod_asks_87 : decode b_Mod_asks 87 = .ok (.iconst 1, 1) := by decide +kernel
theorem d_Mod_asks_88 : decode b_Mod_asks 88 = .ok (.ireturn, 1) := by decide +kernel
theorem d_Mod_turn_0 : decode b_Mod_turn 0 = .ok (.aload_n 0, 1) := by decide +kernel
theorem d_Mod_turn_1 : decode b_Mod_turn 1 = .ok (.iconst 0, 1) := by decide +kernel
theorem d_Mod_turn_2 : decode b_Mod_turn 2 = .ok (.putfield 102, 3) := by decide +kernel
theorem d_Mod_turn_5 : decode b_Mod_turn 5 = .ok (.aload_n 0, 1) := by decide +kernel
theorem d_Mod_turn_6 : decode b_Mod_turn 6 = .ok (.iload_n 1, 1) := by decide +kernel
theorem d_Mod_turn_7 : decode b_Mod_turn 7 = .ok (.invokevirtual 140, 3) := by decide +kernel
theorem d_Mod_turn_10 : decode b_Mod_turn 10 = .ok (.ifCond .eq 21, 3) := by decide +kernel
theorem d_Mod_turn_13 : decode b_Mod_turn 13 = .ok (.iload_n 2, 1) := by decide +kernel
theorem d_Mod_turn_14 : decode b_Mod_turn 14 = .ok (.ifCond .lt 17, 3) := by decide +kernel
theorem d_Mod_turn_17 : decode b_Mod_turn 17 = .ok (.iload_n 2, 1) := by decide +kernel
theorem d_Mod_turn_18 : decode b_Mod_turn 18 = .ok (.iconst 3, 1) := by decide +kernel
theorem d_Mod_turn_19 : decode b_Mod_turn 19 = .ok (.if_icmp .gt 12, 3) := by decide +kernel
theorem d_Mod_turn_22 : decode b_Mod_turn 22 = .ok (.aload_n 0, 1) := by decide +kernel
theorem d_Mod_turn_23 : decode b_Mod_turn 23 = .ok (.getfield 143, 3) := by decide +kernel
theorem d_Mod_turn_26 : decode b_Mod_turn 26 = .ok (.bipush 60, 2) := by decide +kernel
theorem d_Mod_turn_28 : decode b_Mod_turn 28 = .ok (.if_icmp .ne 5, 3) := by decide +kernel
theorem d_Mod_turn_31 : decode b_Mod_turn 31 = .ok (.iconst (-1), 1) := by decide +kernel
theorem d_Mod_turn_32 : decode b_Mod_turn 32 = .ok (.ireturn, 1) := by decide +kernel
theorem d_Mod_turn_33 : decode b_Mod_turn 33 = .ok (.aload_n 0, 1) := by decide +kernel
theorem d_Mod_turn_34 : decode b_Mod_turn 34 = .ok (.getfield 19, 3) := by decide +kernel
theorem d_Mod_turn_37 : decode b_Mod_turn 37 = .ok (.iload_n 1, 1) := by decide +kernel
theorem d_Mod_turn_38 : decode b_Mod_turn 38 = .ok (.iaload, 1) := by decide +kernel
theorem d_Mod_turn_39 : decode b_Mod_turn 39 = .ok (.istore 5, 2) := by decide +kernel
theorem d_Mod_turn_41 : decode b_Mod_turn 41 = .ok (.iload_n 2, 1) := by decide +kernel
theorem d_Mod_turn_42 : decode b_Mod_turn 42 = .ok (.ifCond .le 22, 3) := by decide +kernel
theorem d_Mod_turn_45 : decode b_Mod_turn 45 = .ok (.aload_n 0, 1) := by decide +kernel
theorem d_Mod_turn_46 : decode b_Mod_turn 46 = .ok (.iload_n 3, 1) := by decide +kernel
theorem d_Mod_turn_47 : decode b_Mod_turn 47 = .ok (.invokevirtual 130, 3) := by decide +kernel
theorem d_Mod_turn_50 : decode b_Mod_turn 50 = .ok (.ifCond .eq 28, 3) := by decide +kernel
theorem d_Mod_turn_53 : decode b_Mod_turn 53 = .ok (.aload_n 0, 1) := by decide +kernel
theorem d_Mod_turn_54 : decode b_Mod_turn 54 = .ok (.getfield 32, 3) := by decide +kernel
theorem d_Mod_turn_57 : decode b_Mod_turn 57 = .ok (.iload_n 3, 1) := by decide +kernel
theorem d_Mod_turn_58 : decode b_Mod_turn 58 = .ok (.iaload, 1) := by decide +kernel
theorem d_Mod_turn_59 : decode b_Mod_turn 59 = .ok (.iload 5, 2) := by decide +kernel
theorem d_Mod_turn_61 : decode b_Mod_turn 61 = .ok (.if_icmp .ne 17, 3) := by decide +kernel
theorem d_Mod_turn_64 : decode b_Mod_turn 64 = .ok (.iload_n 2, 1) := by decide +kernel
theorem d_Mod_turn_65 : decode b_Mod_turn 65 = .ok (.iconst 1, 1) := by decide +kernel
theorem d_Mod_turn_66 : decode b_Mod_turn 66 = .ok (.if_icmp .ne 14, 3) := by decide +kernel
theorem d_Mod_turn_69 : decode b_Mod_turn 69 = .ok (.aload_n 0, 1) := by decide +kernel
theorem d_Mod_turn_70 : decode b_Mod_turn 70 = .ok (.getfield 47, 3) := by decide +kernel
theorem d_Mod_turn_73 : decode b_Mod_turn 73 = .ok (.iload_n 3, 1) := by decide +kernel
theorem d_Mod_turn_74 : decode b_Mod_turn 74 = .ok (.baload, 1) := by decide +kernel
theorem d_Mod_turn_75 : decode b_Mod_turn 75 = .ok (.ifCond .ne 5, 3) := by decide +kernel
theorem d_Mod_turn_78 : decode b_Mod_turn 78 = .ok (.iconst (-1), 1) := by decide +kernel
theorem d_Mod_turn_79 : decode b_Mod_turn 79 = .ok (.ireturn, 1) := by decide +kernel
theorem d_Mod_turn_80 : decode b_Mod_turn 80 = .ok (.iload_n 2, 1) := by decide +kernel
theorem d_Mod_turn_81 : decode b_Mod_turn 81 = .ok (.iconst 1, 1) := by decide +kernel
theorem d_Mod_turn_82 : decode b_Mod_turn 82 = .ok (.if_icmp .ne 7, 3) := by decide +kernel
theorem d_Mod_turn_85 : decode b_Mod_turn 85 = .ok (.iconst (-1), 1) := by decide +kernel
theorem d_Mod_turn_86 : decode b_Mod_turn 86 = .ok (.goto 24, 3) := by decide +kernel
theorem d_Mod_turn_89 : decode b_Mod_turn 89 = .ok (.aload_n 0, 1) := by decide +kernel
theorem d_Mod_turn_90 : decode b_Mod_turn 90 = .ok (.iload_n 2, 1) := by decide +kernel
theorem d_Mod_turn_91 : decode b_Mod_turn 91 = .ok (.ifCond .ne 8, 3) := by decide +kernel
theorem d_Mod_turn_94 : decode b_Mod_turn 94 = .ok (.iload 5, 2) := by decide +kernel
theorem d_Mod_turn_96 : decode b_Mod_turn 96 = .ok (.goto 9, 3) := by decide +kernel
theorem d_Mod_turn_99 : decode b_Mod_turn 99 = .ok (.aload_n 0, 1) := by decide +kernel
theorem d_Mod_turn_100 : decode b_Mod_turn 100 = .ok (.getfield 35, 3) := by decide +kernel
theorem d_Mod_turn_103 : decode b_Mod_turn 103 = .ok (.iload_n 3, 1) := by decide +kernel
theorem d_Mod_turn_104 : decode b_Mod_turn 104 = .ok (.iaload, 1) := by decide +kernel
theorem d_Mod_turn_105 : decode b_Mod_turn 105 = .ok (.iload 4, 2) := by decide +kernel
theorem d_Mod_turn_107 : decode b_Mod_turn 107 = .ok (.invokevirtual 126, 3) := by decide +kernel
theorem d_Mod_turn_110 : decode b_Mod_turn 110 = .ok (.istore 6, 2) := by decide +kernel
theorem d_Mod_turn_112 : decode b_Mod_turn 112 = .ok (.iload_n 2, 1) := by decide +kernel
theorem d_Mod_turn_113 : decode b_Mod_turn 113 = .ok (.iconst 1, 1) := by decide +kernel
theorem d_Mod_turn_114 : decode b_Mod_turn 114 = .ok (.if_icmp .eq 9, 3) := by decide +kernel
theorem d_Mod_turn_117 : decode b_Mod_turn 117 = .ok (.iload 6, 2) := by decide +kernel
theorem d_Mod_turn_119 : decode b_Mod_turn 119 = .ok (.iconst (-1), 1) := by decide +kernel
theorem d_Mod_turn_120 : decode b_Mod_turn 120 = .ok (.if_icmp .eq 13, 3) := by decide +kernel
theorem d_Mod_turn_123 : decode b_Mod_turn 123 = .ok (.iload_n 2, 1) := by decide +kernel
theorem d_Mod_turn_124 : decode b_Mod_turn 124 = .ok (.ifCond .ne 11, 3) := by decide +kernel
theorem d_Mod_turn_127 : decode b_Mod_turn 127 = .ok (.iload 6, 2) := by decide +kernel
theorem d_Mod_turn_129 : decode b_Mod_turn 129 = .ok (.iload_n 1, 1) := by decide +kernel
theorem d_Mod_turn_130 : decode b_Mod_turn 130 = .ok (.if_icmp .ne 5, 3) := by decide +kernel
theorem d_Mod_turn_133 : decode b_Mod_turn 133 = .ok (.iconst (-1), 1) := by decide +kernel
theorem d_Mod_turn_134 : decode b_Mod_turn 134 = .ok (.ireturn, 1) := by decide +kernel
theorem d_Mod_turn_135 : decode b_Mod_turn 135 = .ok (.aload_n 0, 1) := by decide +kernel
theorem d_Mod_turn_136 : decode b_Mod_turn 136 = .ok (.getfield 56, 3) := by decide +kernel
theorem d_Mod_turn_139 : decode b_Mod_turn 139 = .ok (.aload_n 0, 1) := by decide +kernel
theorem d_Mod_turn_140 : decode b_Mod_turn 140 = .ok (.getfield 143, 3) := by decide +kernel
theorem d_Mod_turn_143 : decode b_Mod_turn 143 = .ok (.iload_n 1, 1) := by decide +kernel
theorem d_Mod_turn_144 : decode b_Mod_turn 144 = .ok (.iastore, 1) := by decide +kernel
theorem d_Mod_turn_145 : decode b_Mod_turn 145 = .ok (.aload_n 0, 1) := by decide +kernel
theorem d_Mod_turn_146 : decode b_Mod_turn 146 = .ok (.getfield 59, 3) := by decide +kernel
theorem d_Mod_turn_149 : decode b_Mod_turn 149 = .ok (.aload_n 0, 1) := by decide +kernel
theorem d_Mod_turn_150 : decode b_Mod_turn 150 = .ok (.getfield 143, 3) := by decide +kernel
theorem d_Mod_turn_153 : decode b_Mod_turn 153 = .ok (.iload_n 2, 1) := by decide +kernel
theorem d_Mod_turn_154 : decode b_Mod_turn 154 = .ok (.iastore, 1) := by decide +kernel
theorem d_Mod_turn_155 : decode b_Mod_turn 155 = .ok (.aload_n 0, 1) := by decide +kernel
theorem d_Mod_turn_156 : decode b_Mod_turn 156 = .ok (.getfield 62, 3) := by decide +kernel
theorem d_Mod_turn_159 : decode b_Mod_turn 159 = .ok (.aload_n 0, 1) := by decide +kernel
theorem d_Mod_turn_160 : decode b_Mod_turn 160 = .ok (.getfield 143, 3) := by decide +kernel
theorem d_Mod_turn_163 : decode b_Mod_turn 163 = .ok (.iload_n 2, 1) := by decide +kernel
theorem d_Mod_turn_164 : decode b_Mod_turn 164 = .ok (.ifCond .ne 7, 3) := by decide +kernel
theorem d_Mod_turn_167 : decode b_Mod_turn 167 = .ok (.iconst (-1), 1) := by decide +kernel
theorem d_Mod_turn_168 : decode b_Mod_turn 168 = .ok (.goto 4, 3) := by decide +kernel
theorem d_Mod_turn_171 : decode b_Mod_turn 171 = .ok (.iload_n 3, 1) := by decide +kernel
theorem d_Mod_turn_172 : decode b_Mod_turn 172 = .ok (.iastore, 1) := by decide +kernel
theorem d_Mod_turn_173 : decode b_Mod_turn 173 = .ok (.aload_n 0, 1) := by decide +kernel
theorem d_Mod_turn_174 : decode b_Mod_turn 174 = .ok (.getfield 65, 3) := by decide +kernel
theorem d_Mod_turn_177 : decode b_Mod_turn 177 = .ok (.aload_n 0, 1) := by decide +kernel
theorem d_Mod_turn_178 : decode b_Mod_turn 178 = .ok (.getfield 143, 3) := by decide +kernel
theorem d_Mod_turn_181 : decode b_Mod_turn 181 = .ok (.iload 6, 2) := by decide +kernel
theorem d_Mod_turn_183 : decode b_Mod_turn 183 = .ok (.iastore, 1) := by decide +kernel
theorem d_Mod_turn_184 : decode b_Mod_turn 184 = .ok (.aload_n 0, 1) := by decide +kernel
theorem d_Mod_turn_185 : decode b_Mod_turn 185 = .ok (.dup, 1) := by decide +kernel
theorem d_Mod_turn_186 : decode b_Mod_turn 186 = .ok (.getfield 143, 3) := by decide +kernel
theorem d_Mod_turn_189 : decode b_Mod_turn 189 = .ok (.iconst 1, 1) := by decide +kernel
theorem d_Mod_turn_190 : decode b_Mod_turn 190 = .ok (.iadd, 1) := by decide +kernel
theorem d_Mod_turn_191 : decode b_Mod_turn 191 = .ok (.putfield 143, 3) := by decide +kernel
theorem d_Mod_turn_194 : decode b_Mod_turn 194 = .ok (.aload_n 0, 1) := by decide +kernel
theorem d_Mod_turn_195 : decode b_Mod_turn 195 = .ok (.iconst 1, 1) := by decide +kernel
theorem d_Mod_turn_196 : decode b_Mod_turn 196 = .ok (.putfield 114, 3) := by decide +kernel
theorem d_Mod_turn_199 : decode b_Mod_turn 199 = .ok (.aload_n 0, 1) := by decide +kernel
theorem d_Mod_turn_200 : decode b_Mod_turn 200 = .ok (.getfield 143, 3) := by decide +kernel
theorem d_Mod_turn_203 : decode b_Mod_turn 203 = .ok (.iconst 1, 1) := by decide +kernel
theorem d_Mod_turn_204 : decode b_Mod_turn 204 = .ok (.isub, 1) := by decide +kernel
theorem d_Mod_turn_205 : decode b_Mod_turn 205 = .ok (.ireturn, 1) := by decide +kernel
theorem d_Mod_isFor_0 : decode b_Mod_isFor 0 = .ok (.aload_n 0, 1) := by decide +kernel
theorem d_Mod_isFor_1 : decode b_Mod_isFor 1 = .ok (.getfield 38, 3) := by decide +kernel
theorem d_Mod_isFor_4 : decode b_Mod_isFor 4 = .ok (.iload_n 1, 1) := by decide +kernel
theorem d_Mod_isFor_5 : decode b_Mod_isFor 5 = .ok (.iaload, 1) := by decide +kernel
theorem d_Mod_isFor_6 : decode b_Mod_isFor 6 = .ok (.aload_n 0, 1) := by decide +kernel
theorem d_Mod_isFor_7 : decode b_Mod_isFor 7 = .ok (.getfield 146, 3) := by decide +kernel
theorem d_Mod_isFor_10 : decode b_Mod_isFor 10 = .ok (.ishr, 1) := by decide +kernel
theorem d_Mod_isFor_11 : decode b_Mod_isFor 11 = .ok (.iconst 1, 1) := by decide +kernel
theorem d_Mod_isFor_12 : decode b_Mod_isFor 12 = .ok (.iand, 1) := by decide +kernel
theorem d_Mod_isFor_13 : decode b_Mod_isFor 13 = .ok (.iconst 1, 1) := by decide +kernel
theorem d_Mod_isFor_14 : decode b_Mod_isFor 14 = .ok (.if_icmp .ne 7, 3) := by decide +kernel
theorem d_Mod_isFor_17 : decode b_Mod_isFor 17 = .ok (.iconst 1, 1) := by decide +kernel
theorem d_Mod_isFor_18 : decode b_Mod_isFor 18 = .ok (.goto 4, 3) := by decide +kernel
theorem d_Mod_isFor_21 : decode b_Mod_isFor 21 = .ok (.iconst 0, 1) := by decide +kernel
theorem d_Mod_isFor_22 : decode b_Mod_isFor 22 = .ok (.ireturn, 1) := by decide +kernel
theorem d_Mod_farSide_0 : decode b_Mod_farSide 0 = .ok (.aload_n 0, 1) := by decide +kernel
theorem d_Mod_farSide_1 : decode b_Mod_farSide 1 = .ok (.getfield 44, 3) := by decide +kernel
theorem d_Mod_farSide_4 : decode b_Mod_farSide 4 = .ok (.iload_n 1, 1) := by decide +kernel
theorem d_Mod_farSide_5 : decode b_Mod_farSide 5 = .ok (.baload, 1) := by decide +kernel
theorem d_Mod_farSide_6 : decode b_Mod_farSide 6 = .ok (.ifCond .eq 7, 3) := by decide +kernel
theorem d_Mod_farSide_9 : decode b_Mod_farSide 9 = .ok (.iconst 1, 1) := by decide +kernel
theorem d_Mod_farSide_10 : decode b_Mod_farSide 10 = .ok (.goto 4, 3) := by decide +kernel
theorem d_Mod_farSide_13 : decode b_Mod_farSide 13 = .ok (.iload_n 2, 1) := by decide +kernel
theorem d_Mod_farSide_14 : decode b_Mod_farSide 14 = .ok (.ireturn, 1) := by decide +kernel
theorem d_Mod_came_0 : decode b_Mod_came 0 = .ok (.iload_n 0, 1) := by decide +kernel
theorem d_Mod_came_1 : decode b_Mod_came 1 = .ok (.ifCond .le 12, 3) := by decide +kernel
theorem d_Mod_came_4 : decode b_Mod_came 4 = .ok (.iload_n 0, 1) := by decide +kernel
theorem d_Mod_came_5 : decode b_Mod_came 5 = .ok (.iload_n 1, 1) := by decide +kernel
theorem d_Mod_came_6 : decode b_Mod_came 6 = .ok (.if_icmp .ge 7, 3) := by decide +kernel
theorem d_Mod_came_9 : decode b_Mod_came 9 = .ok (.iconst 1, 1) := by decide +kernel
theorem d_Mod_came_10 : decode b_Mod_came 10 = .ok (.goto 4, 3) := by decide +kernel
theorem d_Mod_came_13 : decode b_Mod_came 13 = .ok (.iconst 0, 1) := by decide +kernel
theorem d_Mod_came_14 : decode b_Mod_came 14 = .ok (.ireturn, 1) := by decide +kernel
theorem d_Mod_comesThere_0 : decode b_Mod_comesThere 0 = .ok (.aload_n 0, 1) := by decide +kernel
theorem d_Mod_comesThere_1 : decode b_Mod_comesThere 1 = .ok (.getfield 68, 3) := by decide +kernel
theorem d_Mod_comesThere_4 : decode b_Mod_comesThere 4 = .ok (.iload_n 1, 1) := by decide +kernel
theorem d_Mod_comesThere_5 : decode b_Mod_comesThere 5 = .ok (.baload, 1) := by decide +kernel
theorem d_Mod_comesThere_6 : decode b_Mod_comesThere 6 = .ok (.ifCond .eq 11, 3) := by decide +kernel
theorem d_Mod_comesThere_9 : decode b_Mod_comesThere 9 = .ok (.iload_n 2, 1) := by decide +kernel
theorem d_Mod_comesThere_10 : decode b_Mod_comesThere 10 = .ok (.ifCond .ne 7, 3) := by decide +kernel
theorem d_Mod_comesThere_13 : decode b_Mod_comesThere 13 = .ok (.iconst 1, 1) := by decide +kernel
theorem d_Mod_comesThere_14 : decode b_Mod_comesThere 14 = .ok (.goto 4, 3) := by decide +kernel
theorem d_Mod_comesThere_17 : decode b_Mod_comesThere 17 = .ok (.iconst 0, 1) := by decide +kernel
theorem d_Mod_comesThere_18 : decode b_Mod_comesThere 18 = .ok (.istore 4, 2) := by decide +kernel
theorem d_Mod_comesThere_20 : decode b_Mod_comesThere 20 = .ok (.iconst 0, 1) := by decide +kernel
theorem d_Mod_comesThere_21 : decode b_Mod_comesThere 21 = .ok (.istore 5, 2) := by decide +kernel
theorem d_Mod_comesThere_23 : decode b_Mod_comesThere 23 = .ok (.iload 5, 2) := by decide +kernel
theorem d_Mod_comesThere_25 : decode b_Mod_comesThere 25 = .ok (.aload_n 0, 1) := by decide +kernel
theorem d_Mod_comesThere_26 : decode b_Mod_comesThere 26 = .ok (.getfield 149, 3) := by decide +kernel
theorem d_Mod_comesThere_29 : decode b_Mod_comesThere 29 = .ok (.if_icmp .ge 87, 3) := by decide +kernel
theorem d_Mod_comesThere_32 : decode b_Mod_comesThere 32 = .ok (.iconst 0, 1) := by decide +kernel
theorem d_Mod_comesThere_33 : decode b_Mod_comesThere 33 = .ok (.istore 6, 2) := by decide +kernel
theorem d_Mod_comesThere_35 : decode b_Mod_comesThere 35 = .ok (.iload 6, 2) := by decide +kernel
theorem d_Mod_comesThere_37 : decode b_Mod_comesThere 37 = .ok (.iconst 2, 1) := by decide +kernel
theorem d_Mod_comesThere_38 : decode b_Mod_comesThere 38 = .ok (.if_icmp .ge 72, 3) := by decide +kernel
theorem d_Mod_comesThere_41 : decode b_Mod_comesThere 41 = .ok (.iload 4, 2) := by decide +kernel
theorem d_Mod_comesThere_43 : decode b_Mod_comesThere 43 = .ok (.ifCond .ne 54, 3) := by decide +kernel
theorem d_Mod_comesThere_46 : decode b_Mod_comesThere 46 = .ok (.aload_n 0, 1) := by decide +kernel
theorem d_Mod_comesThere_47 : decode b_Mod_comesThere 47 = .ok (.iload 5, 2) := by decide +kernel
theorem d_Mod_comesThere_49 : decode b_Mod_comesThere 49 = .ok (.invokevirtual 152, 3) := by decide +kernel
theorem d_Mod_comesThere_52 : decode b_Mod_comesThere 52 = .ok (.ifCond .eq 49, 3) := by decide +kernel
theorem d_Mod_comesThere_55 : decode b_Mod_comesThere 55 = .ok (.aload_n 0, 1) := by decide +kernel
theorem d_Mod_comesThere_56 : decode b_Mod_comesThere 56 = .ok (.getfield 35, 3) := by decide +kernel
theorem d_Mod_comesThere_59 : decode b_Mod_comesThere 59 = .ok (.iload 5, 2) := by decide +kernel
theorem d_Mod_comesThere_61 : decode b_Mod_comesThere 61 = .ok (.iaload, 1) := by decide +kernel
theorem d_Mod_comesThere_62 : decode b_Mod_comesThere 62 = .ok (.iload_n 1, 1) := by decide +kernel
theorem d_Mod_comesThere_63 : decode b_Mod_comesThere 63 = .ok (.if_icmp .ne 38, 3) := by decide +kernel
theorem d_Mod_comesThere_66 : decode b_Mod_comesThere 66 = .ok (.aload_n 0, 1) := by decide +kernel
theorem d_Mod_comesThere_67 : decode b_Mod_comesThere 67 = .ok (.iload 5, 2) := by decide +kernel
theorem d_Mod_comesThere_69 : decode b_Mod_comesThere 69 = .ok (.iload 6, 2) := by decide +kernel
theorem d_Mod_comesThere_71 : decode b_Mod_comesThere 71 = .ok (.invokevirtual 155, 3) := by decide +kernel
theorem d_Mod_comesThere_74 : decode b_Mod_comesThere 74 = .ok (.iload_n 2, 1) := by decide +kernel
theorem d_Mod_comesThere_75 : decode b_Mod_comesThere 75 = .ok (.if_icmp .ne 26, 3) := by decide +kernel
theorem d_Mod_comesThere_78 : decode b_Mod_comesThere 78 = .ok (.aload_n 0, 1) := by decide +kernel
theorem d_Mod_comesThere_79 : decode b_Mod_comesThere 79 = .ok (.getfield 74, 3) := by decide +kernel
theorem d_Mod_comesThere_82 : decode b_Mod_comesThere 82 = .ok (.iconst 2, 1) := by decide +kernel
theorem d_Mod_comesThere_83 : decode b_Mod_comesThere 83 = .ok (.iload 5, 2) := by decide +kernel
theorem d_Mod_comesThere_85 : decode b_Mod_comesThere 85 = .ok (.imul, 1) := by decide +kernel
theorem d_Mod_comesThere_86 : decode b_Mod_comesThere 86 = .ok (.iload 6, 2) := by decide +kernel
theorem d_Mod_comesThere_88 : decode b_Mod_comesThere 88 = .ok (.iadd, 1) := by decide +kernel
theorem d_Mod_comesThere_89 : decode b_Mod_comesThere 89 = .ok (.iaload, 1) := by decide +kernel
theorem d_Mod_comesThere_90 : decode b_Mod_comesThere 90 = .ok (.iload_n 3, 1) := by decide +kernel
theorem d_Mod_comesThere_91 : decode b_Mod_comesThere 91 = .ok (.invokestatic 158, 3) := by decide +kernel
theorem d_Mod_comesThere_94 : decode b_Mod_comesThere 94 = .ok (.ifCond .eq 7, 3) := by decide +kernel
theorem d_Mod_comesThere_97 : decode b_Mod_comesThere 97 = .ok (.iconst 1, 1) := by decide +kernel
theorem d_Mod_comesThere_98 : decode b_Mod_comesThere 98 = .ok (.goto 4, 3) := by decide +kernel
theorem d_Mod_comesThere_101 : decode b_Mod_comesThere 101 = .ok (.iconst 0, 1) := by decide +kernel
theorem d_Mod_comesThere_102 : decode b_Mod_comesThere 102 = .ok (.istore 4, 2) := by decide +kernel
theorem d_Mod_comesThere_104 : decode b_Mod_comesThere 104 = .ok (.iinc 6 1, 3) := by decide +kernel
theorem d_Mod_comesThere_107 : decode b_Mod_comesThere 107 = .ok (.goto (-72), 3) := by decide +kernel
theorem d_Mod_comesThere_110 : decode b_Mod_comesThere 110 = .ok (.iinc 5 1, 3) := by decide +kernel
theorem d_Mod_comesThere_113 : decode b_Mod_comesThere 113 = .ok (.goto (-90), 3) := by decide +kernel
theorem d_Mod_comesThere_116 : decode b_Mod_comesThere 116 = .ok (.iload 4, 2) := by decide +kernel
theorem d_Mod_comesThere_118 : decode b_Mod_comesThere 118 = .ok (.ireturn, 1) := by decide +kernel
theorem d_Mod_comesLive_0 : decode b_Mod_comesLive 0 = .ok (.aload_n 0, 1) := by decide +kernel
theorem d_Mod_comesLive_1 : decode b_Mod_comesLive 1 = .ok (.iload_n 1, 1) := by decide +kernel
theorem d_Mod_comesLive_2 : decode b_Mod_comesLive 2 = .ok (.invokevirtual 152, 3) := by decide +kernel
theorem d_Mod_comesLive_5 : decode b_Mod_comesLive 5 = .ok (.ifCond .ne 5, 3) := by decide +kernel
theorem d_Mod_comesLive_8 : decode b_Mod_comesLive 8 = .ok (.iconst 0, 1) := by decide +kernel
theorem d_Mod_comesLive_9 : decode b_Mod_comesLive 9 = .ok (.ireturn, 1) := by decide +kernel
theorem d_Mod_comesLive_10 : decode b_Mod_comesLive 10 = .ok (.aload_n 0, 1) := by decide +kernel
theorem d_Mod_comesLive_11 : decode b_Mod_comesLive 11 = .ok (.getfield 47, 3) := by decide +kernel
theorem d_Mod_comesLive_14 : decode b_Mod_comesLive 14 = .ok (.iload_n 1, 1) := by decide +kernel
theorem d_Mod_comesLive_15 : decode b_Mod_comesLive 15 = .ok (.baload, 1) := by decide +kernel
theorem d_Mod_comesLive_16 : decode b_Mod_comesLive 16 = .ok (.ifCond .ne 29, 3) := by decide +kernel
theorem d_Mod_comesLive_19 : decode b_Mod_comesLive 19 = .ok (.aload_n 0, 1) := by decide +kernel
theorem d_Mod_comesLive_20 : decode b_Mod_comesLive 20 = .ok (.getfield 71, 3) := by decide +kernel
theorem d_Mod_comesLive_23 : decode b_Mod_comesLive 23 = .ok (.iconst 2, 1) := by decide +kernel
theorem d_Mod_comesLive_24 : decode b_Mod_comesLive 24 = .ok (.aload_n 0, 1) := by decide +kernel
theorem d_Mod_comesLive_25 : decode b_Mod_comesLive 25 = .ok (.getfield 32, 3) := by decide +kernel
theorem d_Mod_comesLive_28 : decode b_Mod_comesLive 28 = .ok (.iload_n 1, 1) := by decide +kernel
theorem d_Mod_comesLive_29 : decode b_Mod_comesLive 29 = .ok (.iaload, 1) := by decide +kernel
theorem d_Mod_comesLive_30 : decode b_Mod_comesLive 30 = .ok (.imul, 1) := by decide +kernel
theorem d_Mod_comesLive_31 : decode b_Mod_comesLive 31 = .ok (.iload_n 2, 1) := by decide +kernel
theorem d_Mod_comesLive_32 : decode b_Mod_comesLive 32 = .ok (.iadd, 1) := by decide +kernel
theorem d_Mod_comesLive_33 : decode b_Mod_comesLive 33 = .ok (.iaload, 1) := by decide +kernel
theorem d_Mod_comesLive_34 : decode b_Mod_comesLive 34 = .ok (.iload_n 3, 1) := by decide +kernel
theorem d_Mod_comesLive_35 : decode b_Mod_comesLive 35 = .ok (.invokestatic 158, 3) := by decide +kernel
theorem d_Mod_comesLive_38 : decode b_Mod_comesLive 38 = .ok (.ifCond .eq 7, 3) := by decide +kernel
theorem d_Mod_comesLive_41 : decode b_Mod_comesLive 41 = .ok (.iconst 1, 1) := by decide +kernel
theorem d_Mod_comesLive_42 : decode b_Mod_comesLive 42 = .ok (.goto 4, 3) := by decide +kernel
theorem d_Mod_comesLive_45 : decode b_Mod_comesLive 45 = .ok (.iconst 0, 1) := by decide +kernel
theorem d_Mod_comesLive_46 : decode b_Mod_comesLive 46 = .ok (.istore 4, 2) := by decide +kernel
theorem d_Mod_comesLive_48 : decode b_Mod_comesLive 48 = .ok (.iconst 0, 1) := by decide +kernel
theorem d_Mod_comesLive_49 : decode b_Mod_comesLive 49 = .ok (.istore 5, 2) := by decide +kernel
theorem d_Mod_comesLive_51 : decode b_Mod_comesLive 51 = .ok (.iload 5, 2) := by decide +kernel
theorem d_Mod_comesLive_53 : decode b_Mod_comesLive 53 = .ok (.aload_n 0, 1) := by decide +kernel
theorem d_Mod_comesLive_54 : decode b_Mod_comesLive 54 = .ok (.getfield 162, 3) := by decide +kernel
theorem d_Mod_comesLive_57 : decode b_Mod_comesLive 57 = .ok (.if_icmp .ge 77, 3) := by decide +kernel
theorem d_Mod_comesLive_60 : decode b_Mod_comesLive 60 = .ok (.iload 4, 2) := by decide +kernel
theorem d_Mod_comesLive_62 : decode b_Mod_comesLive 62 = .ok (.ifCond .ne 59, 3) := by decide +kernel
theorem d_Mod_comesLive_65 : decode b_Mod_comesLive 65 = .ok (.aload_n 0, 1) := by decide +kernel
theorem d_Mod_comesLive_66 : decode b_Mod_comesLive 66 = .ok (.getfield 59, 3) := by decide +kernel
theorem d_Mod_comesLive_69 : decode b_Mod_comesLive 69 = .ok (.iload 5, 2) := by decide +kernel
theorem d_Mod_comesLive_71 : decode b_Mod_comesLive 71 = .ok (.iaload, 1) := by decide +kernel
theorem d_Mod_comesLive_72 : decode b_Mod_comesLive 72 = .ok (.iconst 1, 1) := by decide +kernel
theorem d_Mod_comesLive_73 : decode b_Mod_comesLive 73 = .ok (.if_icmp .eq 14, 3) := by decide +kernel
theorem d_Mod_comesLive_76 : decode b_Mod_comesLive 76 = .ok (.aload_n 0, 1) := by decide +kernel
theorem d_Mod_comesLive_77 : decode b_Mod_comesLive 77 = .ok (.getfield 59, 3) := by decide +kernel
theorem d_Mod_comesLive_80 : decode b_Mod_comesLive 80 = .ok (.iload 5, 2) := by decide +kernel
theorem d_Mod_comesLive_82 : decode b_Mod_comesLive 82 = .ok (.iaload, 1) := by decide +kernel
theorem d_Mod_comesLive_83 : decode b_Mod_comesLive 83 = .ok (.iconst 2, 1) := by decide +kernel
theorem d_Mod_comesLive_84 : decode b_Mod_comesLive 84 = .ok (.if_icmp .ne 41, 3) := by decide +kernel
theorem d_Mod_comesLive_87 : decode b_Mod_comesLive 87 = .ok (.aload_n 0, 1) := by decide +kernel
theorem d_Mod_comesLive_88 : decode b_Mod_comesLive 88 = .ok (.getfield 62, 3) := by decide +kernel
theorem d_Mod_comesLive_91 : decode b_Mod_comesLive 91 = .ok (.iload 5, 2) := by decide +kernel
theorem d_Mod_comesLive_93 : decode b_Mod_comesLive 93 = .ok (.iaload, 1) := by decide +kernel
theorem d_Mod_comesLive_94 : decode b_Mod_comesLive 94 = .ok (.iload_n 1, 1) := by decide +kernel
theorem d_Mod_comesLive_95 : decode b_Mod_comesLive 95 = .ok (.if_icmp .ne 30, 3) := by decide +kernel
theorem d_Mod_comesLive_98 : decode b_Mod_comesLive 98 = .ok (.aload_n 0, 1) := by decide +kernel
theorem d_Mod_comesLive_99 : decode b_Mod_comesLive 99 = .ok (.getfield 77, 3) := by decide +kernel
theorem d_Mod_comesLive_102 : decode b_Mod_comesLive 102 = .ok (.iconst 2, 1) := by decide +kernel
theorem d_Mod_comesLive_103 : decode b_Mod_comesLive 103 = .ok (.aload_n 0, 1) := by decide +kernel
theorem d_Mod_comesLive_104 : decode b_Mod_comesLive 104 = .ok (.getfield 56, 3) := by decide +kernel
theorem d_Mod_comesLive_107 : decode b_Mod_comesLive 107 = .ok (.iload 5, 2) := by decide +kernel
theorem d_Mod_comesLive_109 : decode b_Mod_comesLive 109 = .ok (.iaload, 1) := by decide +kernel
theorem d_Mod_comesLive_110 : decode b_Mod_comesLive 110 = .ok (.imul, 1) := by decide +kernel
theorem d_Mod_comesLive_111 : decode b_Mod_comesLive 111 = .ok (.iload_n 2, 1) := by decide +kernel
theorem d_Mod_comesLive_112 : decode b_Mod_comesLive 112 = .ok (.iadd, 1) := by decide +kernel
theorem d_Mod_comesLive_113 : decode b_Mod_comesLive 113 = .ok (.iaload, 1) := by decide +kernel
theorem d_Mod_comesLive_114 : decode b_Mod_comesLive 114 = .ok (.iload_n 3, 1) := by decide +kernel
theorem d_Mod_comesLive_115 : decode b_Mod_comesLive 115 = .ok (.invokestatic 158, 3) := by decide +kernel
theorem d_Mod_comesLive_118 : decode b_Mod_comesLive 118 = .ok (.ifCond .eq 7, 3) := by decide +kernel
theorem d_Mod_comesLive_121 : decode b_Mod_comesLive 121 = .ok (.iconst 1, 1) := by decide +kernel
theorem d_Mod_comesLive_122 : decode b_Mod_comesLive 122 = .ok (.goto 4, 3) := by decide +kernel
theorem d_Mod_comesLive_125 : decode b_Mod_comesLive 125 = .ok (.iconst 0, 1) := by decide +kernel
theorem d_Mod_comesLive_126 : decode b_Mod_comesLive 126 = .ok (.istore 4, 2) := by decide +kernel
theorem d_Mod_comesLive_128 : decode b_Mod_comesLive 128 = .ok (.iinc 5 1, 3) := by decide +kernel
theorem d_Mod_comesLive_131 : decode b_Mod_comesLive 131 = .ok (.goto (-80), 3) := by decide +kernel
theorem d_Mod_comesLive_134 : decode b_Mod_comesLive 134 = .ok (.iload 4, 2) := by decide +kernel
theorem d_Mod_comesLive_136 : decode b_Mod_comesLive 136 = .ok (.ireturn, 1) := by decide +kernel
theorem d_Mod_tell_0 : decode b_Mod_tell 0 = .ok (.aload_n 0, 1) := by decide +kernel
theorem d_Mod_tell_1 : decode b_Mod_tell 1 = .ok (.getfield 96, 3) := by decide +kernel
theorem d_Mod_tell_4 : decode b_Mod_tell 4 = .ok (.aload_n 0, 1) := by decide +kernel
theorem d_Mod_tell_5 : decode b_Mod_tell 5 = .ok (.getfield 165, 3) := by decide +kernel
theorem d_Mod_tell_8 : decode b_Mod_tell 8 = .ok (.iload_n 1, 1) := by decide +kernel
theorem d_Mod_tell_9 : decode b_Mod_tell 9 = .ok (.iastore, 1) := by decide +kernel
theorem d_Mod_tell_10 : decode b_Mod_tell 10 = .ok (.aload_n 0, 1) := by decide +kernel
theorem d_Mod_tell_11 : decode b_Mod_tell 11 = .ok (.getfield 99, 3) := by decide +kernel
theorem d_Mod_tell_14 : decode b_Mod_tell 14 = .ok (.aload_n 0, 1) := by decide +kernel
theorem d_Mod_tell_15 : decode b_Mod_tell 15 = .ok (.getfield 165, 3) := by decide +kernel
theorem d_Mod_tell_18 : decode b_Mod_tell 18 = .ok (.iload_n 2, 1) := by decide +kernel
theorem d_Mod_tell_19 : decode b_Mod_tell 19 = .ok (.iastore, 1) := by decide +kernel
theorem d_Mod_tell_20 : decode b_Mod_tell 20 = .ok (.aload_n 0, 1) := by decide +kernel
theorem d_Mod_tell_21 : decode b_Mod_tell 21 = .ok (.dup, 1) := by decide +kernel
theorem d_Mod_tell_22 : decode b_Mod_tell 22 = .ok (.getfield 165, 3) := by decide +kernel
theorem d_Mod_tell_25 : decode b_Mod_tell 25 = .ok (.iconst 1, 1) := by decide +kernel
theorem d_Mod_tell_26 : decode b_Mod_tell 26 = .ok (.iadd, 1) := by decide +kernel
theorem d_Mod_tell_27 : decode b_Mod_tell 27 = .ok (.putfield 165, 3) := by decide +kernel
theorem d_Mod_tell_30 : decode b_Mod_tell 30 = .ok (.return_, 1) := by decide +kernel
theorem d_Mod_turnsOn_0 : decode b_Mod_turnsOn 0 = .ok (.aload_n 0, 1) := by decide +kernel
theorem d_Mod_turnsOn_1 : decode b_Mod_turnsOn 1 = .ok (.getfield 62, 3) := by decide +kernel
theorem d_Mod_turnsOn_4 : decode b_Mod_turnsOn 4 = .ok (.iload_n 1, 1) := by decide +kernel
theorem d_Mod_turnsOn_5 : decode b_Mod_turnsOn 5 = .ok (.iaload, 1) := by decide +kernel
theorem d_Mod_turnsOn_6 : decode b_Mod_turnsOn 6 = .ok (.istore 7, 2) := by decide +kernel
theorem d_Mod_turnsOn_8 : decode b_Mod_turnsOn 8 = .ok (.aload_n 0, 1) := by decide +kernel
theorem d_Mod_turnsOn_9 : decode b_Mod_turnsOn 9 = .ok (.getfield 65, 3) := by decide +kernel
theorem d_Mod_turnsOn_12 : decode b_Mod_turnsOn 12 = .ok (.iload_n 1, 1) := by decide +kernel
theorem d_Mod_turnsOn_13 : decode b_Mod_turnsOn 13 = .ok (.iaload, 1) := by decide +kernel
theorem d_Mod_turnsOn_14 : decode b_Mod_turnsOn 14 = .ok (.iload 4, 2) := by decide +kernel
theorem d_Mod_turnsOn_16 : decode b_Mod_turnsOn 16 = .ok (.if_icmp .ne 26, 3) := by decide +kernel
theorem d_Mod_turnsOn_19 : decode b_Mod_turnsOn 19 = .ok (.aload_n 0, 1) := by decide +kernel
theorem d_Mod_turnsOn_20 : decode b_Mod_turnsOn 20 = .ok (.getfield 77, 3) := by decide +kernel
theorem d_Mod_turnsOn_23 : decode b_Mod_turnsOn 23 = .ok (.iconst 2, 1) := by decide +kernel
theorem d_Mod_turnsOn_24 : decode b_Mod_turnsOn 24 = .ok (.aload_n 0, 1) := by decide +kernel
theorem d_Mod_turnsOn_25 : decode b_Mod_turnsOn 25 = .ok (.getfield 56, 3) := by decide +kernel
theorem d_Mod_turnsOn_28 : decode b_Mod_turnsOn 28 = .ok (.iload_n 1, 1) := by decide +kernel
theorem d_Mod_turnsOn_29 : decode b_Mod_turnsOn 29 = .ok (.iaload, 1) := by decide +kernel
theorem d_Mod_turnsOn_30 : decode b_Mod_turnsOn 30 = .ok (.imul, 1) := by decide +kernel
theorem d_Mod_turnsOn_31 : decode b_Mod_turnsOn 31 = .ok (.iload_n 2, 1) := by decide +kernel
theorem d_Mod_turnsOn_32 : decode b_Mod_turnsOn 32 = .ok (.iadd, 1) := by decide +kernel
theorem d_Mod_turnsOn_33 : decode b_Mod_turnsOn 33 = .ok (.iaload, 1) := by decide +kernel
theorem d_Mod_turnsOn_34 : decode b_Mod_turnsOn 34 = .ok (.iload 6, 2) := by decide +kernel
theorem d_Mod_turnsOn_36 : decode b_Mod_turnsOn 36 = .ok (.invokestatic 158, 3) := by decide +kernel
theorem d_Mod_turnsOn_39 : decode b_Mod_turnsOn 39 = .ok (.ifCond .ne 5, 3) := by decide +kernel
theorem d_Mod_turnsOn_42 : decode b_Mod_turnsOn 42 = .ok (.iconst 0, 1) := by decide +kernel
theorem d_Mod_turnsOn_43 : decode b_Mod_turnsOn 43 = .ok (.ireturn, 1) := by decide +kernel
theorem d_Mod_turnsOn_44 : decode b_Mod_turnsOn 44 = .ok (.iload_n 3, 1) := by decide +kernel
theorem d_Mod_turnsOn_45 : decode b_Mod_turnsOn 45 = .ok (.iconst 3, 1) := by decide +kernel
theorem d_Mod_turnsOn_46 : decode b_Mod_turnsOn 46 = .ok (.if_icmp .ne 24, 3) := by decide +kernel
theorem d_Mod_turnsOn_49 : decode b_Mod_turnsOn 49 = .ok (.aload_n 0, 1) := by decide +kernel
theorem d_Mod_turnsOn_50 : decode b_Mod_turnsOn 50 = .ok (.getfield 59, 3) := by decide +kernel
theorem d_Mod_turnsOn_53 : decode b_Mod_turnsOn 53 = .ok (.iload_n 1, 1) := by decide +kernel
theorem d_Mod_turnsOn_54 : decode b_Mod_turnsOn 54 = .ok (.iaload, 1) := by decide +kernel
theorem d_Mod_turnsOn_55 : decode b_Mod_turnsOn 55 = .ok (.ifCond .ne 13, 3) := by decide +kernel
theorem d_Mod_turnsOn_58 : decode b_Mod_turnsOn 58 = .ok (.iload_n 2, 1) := by decide +kernel
theorem d_Mod_turnsOn_59 : decode b_Mod_turnsOn 59 = .ok (.iload 5, 2) := by decide +kernel
theorem d_Mod_turnsOn_61 : decode b_Mod_turnsOn 61 = .ok (.if_icmp .ne 7, 3) := by decide +kernel
theorem d_Mod_turnsOn_64 : decode b_Mod_turnsOn 64 = .ok (.iconst 1, 1) := by decide +kernel
theorem d_Mod_turnsOn_65 : decode b_Mod_turnsOn 65 = .ok (.goto 4, 3) := by decide +kernel
theorem d_Mod_turnsOn_68 : decode b_Mod_turnsOn 68 = .ok (.iconst 0, 1) := by decide +kernel
theorem d_Mod_turnsOn_69 : decode b_Mod_turnsOn 69 = .ok (.ireturn, 1) := by decide +kernel
theorem d_Mod_turnsOn_70 : decode b_Mod_turnsOn 70 = .ok (.aload_n 0, 1) := by decide +kernel
theorem d_Mod_turnsOn_71 : decode b_Mod_turnsOn 71 = .ok (.getfield 59, 3) := by decide +kernel
theorem d_Mod_turnsOn_74 : decode b_Mod_turnsOn 74 = .ok (.iload_n 1, 1) := by decide +kernel
theorem d_Mod_turnsOn_75 : decode b_Mod_turnsOn 75 = .ok (.iaload, 1) := by decide +kernel
theorem d_Mod_turnsOn_76 : decode b_Mod_turnsOn 76 = .ok (.iload_n 3, 1) := by decide +kernel
theorem d_Mod_turnsOn_77 : decode b_Mod_turnsOn 77 = .ok (.iconst 4, 1) := by decide +kernel
theorem d_Mod_turnsOn_78 : decode b_Mod_turnsOn 78 = .ok (.if_icmp .ne 7, 3) := by decide +kernel
theorem d_Mod_turnsOn_81 : decode b_Mod_turnsOn 81 = .ok (.iconst 2, 1) := by decide +kernel
theorem d_Mod_turnsOn_82 : decode b_Mod_turnsOn 82 = .ok (.goto 4, 3) := by decide +kernel
theorem d_Mod_turnsOn_85 : decode b_Mod_turnsOn 85 = .ok (.iconst 3, 1) := by decide +kernel
theorem d_Mod_turnsOn_86 : decode b_Mod_turnsOn 86 = .ok (.if_icmp .ne 24, 3) := by decide +kernel
theorem d_Mod_turnsOn_89 : decode b_Mod_turnsOn 89 = .ok (.aload_n 0, 1) := by decide +kernel
theorem d_Mod_turnsOn_90 : decode b_Mod_turnsOn 90 = .ok (.iload 7, 2) := by decide +kernel
theorem d_Mod_turnsOn_92 : decode b_Mod_turnsOn 92 = .ok (.invokevirtual 152, 3) := by decide +kernel
theorem d_Mod_turnsOn_95 : decode b_Mod_turnsOn 95 = .ok (.ifCond .eq 15, 3) := by decide +kernel
theorem d_Mod_turnsOn_98 : decode b_Mod_turnsOn 98 = .ok (.aload_n 0, 1) := by decide +kernel
theorem d_Mod_turnsOn_99 : decode b_Mod_turnsOn 99 = .ok (.iload 7, 2) := by decide +kernel
theorem d_Mod_turnsOn_101 : decode b_Mod_turnsOn 101 = .ok (.iload_n 2, 1) := by decide +kernel
theorem d_Mod_turnsOn_102 : decode b_Mod_turnsOn 102 = .ok (.invokevirtual 155, 3) := by decide +kernel
theorem d_Mod_turnsOn_105 : decode b_Mod_turnsOn 105 = .ok (.iload 5, 2) := by decide +kernel
theorem d_Mod_turnsOn_107 : decode b_Mod_turnsOn 107 = .ok (.if_icmp .eq 5, 3) := by decide +kernel
theorem d_Mod_turnsOn_110 : decode b_Mod_turnsOn 110 = .ok (.iconst 0, 1) := by decide +kernel
theorem d_Mod_turnsOn_111 : decode b_Mod_turnsOn 111 = .ok (.ireturn, 1) := by decide +kernel
theorem d_Mod_turnsOn_112 : decode b_Mod_turnsOn 112 = .ok (.iload_n 3, 1) := by decide +kernel
theorem d_Mod_turnsOn_113 : decode b_Mod_turnsOn 113 = .ok (.iconst 4, 1) := by decide +kernel
theorem d_Mod_turnsOn_114 : decode b_Mod_turnsOn 114 = .ok (.if_icmp .eq 22, 3) := by decide +kernel
theorem d_Mod_turnsOn_117 : decode b_Mod_turnsOn 117 = .ok (.aload_n 0, 1) := by decide +kernel
theorem d_Mod_turnsOn_118 : decode b_Mod_turnsOn 118 = .ok (.getfield 74, 3) := by decide +kernel
theorem d_Mod_turnsOn_121 : decode b_Mod_turnsOn 121 = .ok (.iconst 2, 1) := by decide +kernel
theorem d_Mod_turnsOn_122 : decode b_Mod_turnsOn 122 = .ok (.iload 7, 2) := by decide +kernel
theorem d_Mod_turnsOn_124 : decode b_Mod_turnsOn 124 = .ok (.imul, 1) := by decide +kernel
theorem d_Mod_turnsOn_125 : decode b_Mod_turnsOn 125 = .ok (.iload_n 2, 1) := by decide +kernel
theorem d_Mod_turnsOn_126 : decode b_Mod_turnsOn 126 = .ok (.iadd, 1) := by decide +kernel
theorem d_Mod_turnsOn_127 : decode b_Mod_turnsOn 127 = .ok (.iaload, 1) := by decide +kernel
theorem d_Mod_turnsOn_128 : decode b_Mod_turnsOn 128 = .ok (.iload 6, 2) := by decide +kernel
theorem d_Mod_turnsOn_130 : decode b_Mod_turnsOn 130 = .ok (.invokestatic 158, 3) := by decide +kernel
theorem d_Mod_turnsOn_133 : decode b_Mod_turnsOn 133 = .ok (.ifCond .eq 7, 3) := by decide +kernel
theorem d_Mod_turnsOn_136 : decode b_Mod_turnsOn 136 = .ok (.iconst 1, 1) := by decide +kernel
theorem d_Mod_turnsOn_137 : decode b_Mod_turnsOn 137 = .ok (.goto 4, 3) := by decide +kernel
theorem d_Mod_turnsOn_140 : decode b_Mod_turnsOn 140 = .ok (.iconst 0, 1) := by decide +kernel
theorem d_Mod_turnsOn_141 : decode b_Mod_turnsOn 141 = .ok (.ireturn, 1) := by decide +kernel
