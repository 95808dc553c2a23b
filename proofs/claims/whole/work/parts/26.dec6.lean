theorem d_Mod_reasoned_0 : decode b_Mod_reasoned 0 = .ok (.iload_n 1, 1) := by decide +kernel
theorem d_Mod_reasoned_1 : decode b_Mod_reasoned 1 = .ok (.ifCond .lt 18, 3) := by decide +kernel
theorem d_Mod_reasoned_4 : decode b_Mod_reasoned 4 = .ok (.iload_n 1, 1) := by decide +kernel
theorem d_Mod_reasoned_5 : decode b_Mod_reasoned 5 = .ok (.aload_n 0, 1) := by decide +kernel
theorem d_Mod_reasoned_6 : decode b_Mod_reasoned 6 = .ok (.getfield 193, 3) := by decide +kernel
theorem d_Mod_reasoned_9 : decode b_Mod_reasoned 9 = .ok (.if_icmp .ge 10, 3) := by decide +kernel
theorem d_Mod_reasoned_12 : decode b_Mod_reasoned 12 = .ok (.iload_n 2, 1) := by decide +kernel
theorem d_Mod_reasoned_13 : decode b_Mod_reasoned 13 = .ok (.invokestatic 206, 3) := by decide +kernel
theorem d_Mod_reasoned_16 : decode b_Mod_reasoned 16 = .ok (.ifCond .ne 5, 3) := by decide +kernel
theorem d_Mod_reasoned_19 : decode b_Mod_reasoned 19 = .ok (.iconst 0, 1) := by decide +kernel
theorem d_Mod_reasoned_20 : decode b_Mod_reasoned 20 = .ok (.ireturn, 1) := by decide +kernel
theorem d_Mod_reasoned_21 : decode b_Mod_reasoned 21 = .ok (.iconst 0, 1) := by decide +kernel
theorem d_Mod_reasoned_22 : decode b_Mod_reasoned 22 = .ok (.istore_n 3, 1) := by decide +kernel
theorem d_Mod_reasoned_23 : decode b_Mod_reasoned 23 = .ok (.iload_n 3, 1) := by decide +kernel
theorem d_Mod_reasoned_24 : decode b_Mod_reasoned 24 = .ok (.bipush 20, 2) := by decide +kernel
theorem d_Mod_reasoned_26 : decode b_Mod_reasoned 26 = .ok (.if_icmp .ge 21, 3) := by decide +kernel
theorem d_Mod_reasoned_29 : decode b_Mod_reasoned 29 = .ok (.aload_n 0, 1) := by decide +kernel
theorem d_Mod_reasoned_30 : decode b_Mod_reasoned 30 = .ok (.getfield 71, 3) := by decide +kernel
theorem d_Mod_reasoned_33 : decode b_Mod_reasoned 33 = .ok (.iload_n 3, 1) := by decide +kernel
theorem d_Mod_reasoned_34 : decode b_Mod_reasoned 34 = .ok (.aload_n 0, 1) := by decide +kernel
theorem d_Mod_reasoned_35 : decode b_Mod_reasoned 35 = .ok (.getfield 80, 3) := by decide +kernel
theorem d_Mod_reasoned_38 : decode b_Mod_reasoned 38 = .ok (.iload_n 3, 1) := by decide +kernel
theorem d_Mod_reasoned_39 : decode b_Mod_reasoned 39 = .ok (.iaload, 1) := by decide +kernel
theorem d_Mod_reasoned_40 : decode b_Mod_reasoned 40 = .ok (.iastore, 1) := by decide +kernel
theorem d_Mod_reasoned_41 : decode b_Mod_reasoned 41 = .ok (.iinc 3 1, 3) := by decide +kernel
theorem d_Mod_reasoned_44 : decode b_Mod_reasoned 44 = .ok (.goto (-21), 3) := by decide +kernel
theorem d_Mod_reasoned_47 : decode b_Mod_reasoned 47 = .ok (.iconst 0, 1) := by decide +kernel
theorem d_Mod_reasoned_48 : decode b_Mod_reasoned 48 = .ok (.istore_n 3, 1) := by decide +kernel
theorem d_Mod_reasoned_49 : decode b_Mod_reasoned 49 = .ok (.iload_n 3, 1) := by decide +kernel
theorem d_Mod_reasoned_50 : decode b_Mod_reasoned 50 = .ok (.bipush 80, 2) := by decide +kernel
theorem d_Mod_reasoned_52 : decode b_Mod_reasoned 52 = .ok (.if_icmp .ge 21, 3) := by decide +kernel
theorem d_Mod_reasoned_55 : decode b_Mod_reasoned 55 = .ok (.aload_n 0, 1) := by decide +kernel
theorem d_Mod_reasoned_56 : decode b_Mod_reasoned 56 = .ok (.getfield 74, 3) := by decide +kernel
theorem d_Mod_reasoned_59 : decode b_Mod_reasoned 59 = .ok (.iload_n 3, 1) := by decide +kernel
theorem d_Mod_reasoned_60 : decode b_Mod_reasoned 60 = .ok (.aload_n 0, 1) := by decide +kernel
theorem d_Mod_reasoned_61 : decode b_Mod_reasoned 61 = .ok (.getfield 83, 3) := by decide +kernel
theorem d_Mod_reasoned_64 : decode b_Mod_reasoned 64 = .ok (.iload_n 3, 1) := by decide +kernel
theorem d_Mod_reasoned_65 : decode b_Mod_reasoned 65 = .ok (.iaload, 1) := by decide +kernel
theorem d_Mod_reasoned_66 : decode b_Mod_reasoned 66 = .ok (.iastore, 1) := by decide +kernel
theorem d_Mod_reasoned_67 : decode b_Mod_reasoned 67 = .ok (.iinc 3 1, 3) := by decide +kernel
theorem d_Mod_reasoned_70 : decode b_Mod_reasoned 70 = .ok (.goto (-21), 3) := by decide +kernel
theorem d_Mod_reasoned_73 : decode b_Mod_reasoned 73 = .ok (.iconst 0, 1) := by decide +kernel
theorem d_Mod_reasoned_74 : decode b_Mod_reasoned 74 = .ok (.istore_n 3, 1) := by decide +kernel
theorem d_Mod_reasoned_75 : decode b_Mod_reasoned 75 = .ok (.iload_n 3, 1) := by decide +kernel
theorem d_Mod_reasoned_76 : decode b_Mod_reasoned 76 = .ok (.bipush 120, 2) := by decide +kernel
theorem d_Mod_reasoned_78 : decode b_Mod_reasoned 78 = .ok (.if_icmp .ge 21, 3) := by decide +kernel
theorem d_Mod_reasoned_81 : decode b_Mod_reasoned 81 = .ok (.aload_n 0, 1) := by decide +kernel
theorem d_Mod_reasoned_82 : decode b_Mod_reasoned 82 = .ok (.getfield 77, 3) := by decide +kernel
theorem d_Mod_reasoned_85 : decode b_Mod_reasoned 85 = .ok (.iload_n 3, 1) := by decide +kernel
theorem d_Mod_reasoned_86 : decode b_Mod_reasoned 86 = .ok (.aload_n 0, 1) := by decide +kernel
theorem d_Mod_reasoned_87 : decode b_Mod_reasoned 87 = .ok (.getfield 86, 3) := by decide +kernel
theorem d_Mod_reasoned_90 : decode b_Mod_reasoned 90 = .ok (.iload_n 3, 1) := by decide +kernel
theorem d_Mod_reasoned_91 : decode b_Mod_reasoned 91 = .ok (.iaload, 1) := by decide +kernel
theorem d_Mod_reasoned_92 : decode b_Mod_reasoned 92 = .ok (.iastore, 1) := by decide +kernel
theorem d_Mod_reasoned_93 : decode b_Mod_reasoned 93 = .ok (.iinc 3 1, 3) := by decide +kernel
theorem d_Mod_reasoned_96 : decode b_Mod_reasoned 96 = .ok (.goto (-21), 3) := by decide +kernel
theorem d_Mod_reasoned_99 : decode b_Mod_reasoned 99 = .ok (.aload_n 0, 1) := by decide +kernel
theorem d_Mod_reasoned_100 : decode b_Mod_reasoned 100 = .ok (.iload_n 1, 1) := by decide +kernel
theorem d_Mod_reasoned_101 : decode b_Mod_reasoned 101 = .ok (.iload_n 2, 1) := by decide +kernel
theorem d_Mod_reasoned_102 : decode b_Mod_reasoned 102 = .ok (.sipush 1000, 3) := by decide +kernel
theorem d_Mod_reasoned_105 : decode b_Mod_reasoned 105 = .ok (.invokevirtual 179, 3) := by decide +kernel
theorem d_Mod_reasoned_108 : decode b_Mod_reasoned 108 = .ok (.iconst 1, 1) := by decide +kernel
theorem d_Mod_reasoned_109 : decode b_Mod_reasoned 109 = .ok (.ireturn, 1) := by decide +kernel
theorem d_Mod_reasons_0 : decode b_Mod_reasons 0 = .ok (.aload_n 0, 1) := by decide +kernel
theorem d_Mod_reasons_1 : decode b_Mod_reasons 1 = .ok (.iconst 0, 1) := by decide +kernel
theorem d_Mod_reasons_2 : decode b_Mod_reasons 2 = .ok (.putfield 102, 3) := by decide +kernel
theorem d_Mod_reasons_5 : decode b_Mod_reasons 5 = .ok (.aload_n 0, 1) := by decide +kernel
theorem d_Mod_reasons_6 : decode b_Mod_reasons 6 = .ok (.iload_n 1, 1) := by decide +kernel
theorem d_Mod_reasons_7 : decode b_Mod_reasons 7 = .ok (.iload_n 2, 1) := by decide +kernel
theorem d_Mod_reasons_8 : decode b_Mod_reasons 8 = .ok (.invokevirtual 209, 3) := by decide +kernel
theorem d_Mod_reasons_11 : decode b_Mod_reasons 11 = .ok (.ifCond .eq 10, 3) := by decide +kernel
theorem d_Mod_reasons_14 : decode b_Mod_reasons 14 = .ok (.aload_n 0, 1) := by decide +kernel
theorem d_Mod_reasons_15 : decode b_Mod_reasons 15 = .ok (.getfield 165, 3) := by decide +kernel
theorem d_Mod_reasons_18 : decode b_Mod_reasons 18 = .ok (.goto 4, 3) := by decide +kernel
theorem d_Mod_reasons_21 : decode b_Mod_reasons 21 = .ok (.iconst 0, 1) := by decide +kernel
theorem d_Mod_reasons_22 : decode b_Mod_reasons 22 = .ok (.ireturn, 1) := by decide +kernel
theorem d_Mod_reason_0 : decode b_Mod_reason 0 = .ok (.aload_n 0, 1) := by decide +kernel
theorem d_Mod_reason_1 : decode b_Mod_reason 1 = .ok (.iconst 0, 1) := by decide +kernel
theorem d_Mod_reason_2 : decode b_Mod_reason 2 = .ok (.putfield 102, 3) := by decide +kernel
theorem d_Mod_reason_5 : decode b_Mod_reason 5 = .ok (.aload_n 0, 1) := by decide +kernel
theorem d_Mod_reason_6 : decode b_Mod_reason 6 = .ok (.iload_n 1, 1) := by decide +kernel
theorem d_Mod_reason_7 : decode b_Mod_reason 7 = .ok (.iload_n 2, 1) := by decide +kernel
theorem d_Mod_reason_8 : decode b_Mod_reason 8 = .ok (.invokevirtual 209, 3) := by decide +kernel
theorem d_Mod_reason_11 : decode b_Mod_reason 11 = .ok (.ifCond .eq 15, 3) := by decide +kernel
theorem d_Mod_reason_14 : decode b_Mod_reason 14 = .ok (.iload_n 3, 1) := by decide +kernel
theorem d_Mod_reason_15 : decode b_Mod_reason 15 = .ok (.ifCond .lt 11, 3) := by decide +kernel
theorem d_Mod_reason_18 : decode b_Mod_reason 18 = .ok (.iload_n 3, 1) := by decide +kernel
theorem d_Mod_reason_19 : decode b_Mod_reason 19 = .ok (.aload_n 0, 1) := by decide +kernel
theorem d_Mod_reason_20 : decode b_Mod_reason 20 = .ok (.getfield 165, 3) := by decide +kernel
theorem d_Mod_reason_23 : decode b_Mod_reason 23 = .ok (.if_icmp .lt 5, 3) := by decide +kernel
theorem d_Mod_reason_26 : decode b_Mod_reason 26 = .ok (.iconst (-1), 1) := by decide +kernel
theorem d_Mod_reason_27 : decode b_Mod_reason 27 = .ok (.ireturn, 1) := by decide +kernel
theorem d_Mod_reason_28 : decode b_Mod_reason 28 = .ok (.iload 4, 2) := by decide +kernel
theorem d_Mod_reason_30 : decode b_Mod_reason 30 = .ok (.ifCond .ne 12, 3) := by decide +kernel
theorem d_Mod_reason_33 : decode b_Mod_reason 33 = .ok (.aload_n 0, 1) := by decide +kernel
theorem d_Mod_reason_34 : decode b_Mod_reason 34 = .ok (.getfield 96, 3) := by decide +kernel
theorem d_Mod_reason_37 : decode b_Mod_reason 37 = .ok (.iload_n 3, 1) := by decide +kernel
theorem d_Mod_reason_38 : decode b_Mod_reason 38 = .ok (.iaload, 1) := by decide +kernel
theorem d_Mod_reason_39 : decode b_Mod_reason 39 = .ok (.goto 19, 3) := by decide +kernel
theorem d_Mod_reason_42 : decode b_Mod_reason 42 = .ok (.iload 4, 2) := by decide +kernel
theorem d_Mod_reason_44 : decode b_Mod_reason 44 = .ok (.iconst 1, 1) := by decide +kernel
theorem d_Mod_reason_45 : decode b_Mod_reason 45 = .ok (.if_icmp .ne 12, 3) := by decide +kernel
theorem d_Mod_reason_48 : decode b_Mod_reason 48 = .ok (.aload_n 0, 1) := by decide +kernel
theorem d_Mod_reason_49 : decode b_Mod_reason 49 = .ok (.getfield 99, 3) := by decide +kernel
theorem d_Mod_reason_52 : decode b_Mod_reason 52 = .ok (.iload_n 3, 1) := by decide +kernel
theorem d_Mod_reason_53 : decode b_Mod_reason 53 = .ok (.iaload, 1) := by decide +kernel
theorem d_Mod_reason_54 : decode b_Mod_reason 54 = .ok (.goto 4, 3) := by decide +kernel
theorem d_Mod_reason_57 : decode b_Mod_reason 57 = .ok (.iconst (-1), 1) := by decide +kernel
theorem d_Mod_reason_58 : decode b_Mod_reason 58 = .ok (.ireturn, 1) := by decide +kernel
theorem d_Mod_clash_0 : decode b_Mod_clash 0 = .ok (.aload_n 0, 1) := by decide +kernel
theorem d_Mod_clash_1 : decode b_Mod_clash 1 = .ok (.iconst 0, 1) := by decide +kernel
theorem d_Mod_clash_2 : decode b_Mod_clash 2 = .ok (.putfield 102, 3) := by decide +kernel
theorem d_Mod_clash_5 : decode b_Mod_clash 5 = .ok (.iconst 0, 1) := by decide +kernel
theorem d_Mod_clash_6 : decode b_Mod_clash 6 = .ok (.istore_n 3, 1) := by decide +kernel
theorem d_Mod_clash_7 : decode b_Mod_clash 7 = .ok (.iconst 0, 1) := by decide +kernel
theorem d_Mod_clash_8 : decode b_Mod_clash 8 = .ok (.istore 4, 2) := by decide +kernel
theorem d_Mod_clash_10 : decode b_Mod_clash 10 = .ok (.iload 4, 2) := by decide +kernel
theorem d_Mod_clash_12 : decode b_Mod_clash 12 = .ok (.aload_n 0, 1) := by decide +kernel
theorem d_Mod_clash_13 : decode b_Mod_clash 13 = .ok (.getfield 193, 3) := by decide +kernel
theorem d_Mod_clash_16 : decode b_Mod_clash 16 = .ok (.if_icmp .ge 164, 3) := by decide +kernel
theorem d_Mod_clash_19 : decode b_Mod_clash 19 = .ok (.iload 4, 2) := by decide +kernel
theorem d_Mod_clash_21 : decode b_Mod_clash 21 = .ok (.iconst 1, 1) := by decide +kernel
theorem d_Mod_clash_22 : decode b_Mod_clash 22 = .ok (.iadd, 1) := by decide +kernel
theorem d_Mod_clash_23 : decode b_Mod_clash 23 = .ok (.istore 5, 2) := by decide +kernel
theorem d_Mod_clash_25 : decode b_Mod_clash 25 = .ok (.iload 5, 2) := by decide +kernel
theorem d_Mod_clash_27 : decode b_Mod_clash 27 = .ok (.aload_n 0, 1) := by decide +kernel
theorem d_Mod_clash_28 : decode b_Mod_clash 28 = .ok (.getfield 193, 3) := by decide +kernel
theorem d_Mod_clash_31 : decode b_Mod_clash 31 = .ok (.if_icmp .ge 143, 3) := by decide +kernel
theorem d_Mod_clash_34 : decode b_Mod_clash 34 = .ok (.aload_n 0, 1) := by decide +kernel
theorem d_Mod_clash_35 : decode b_Mod_clash 35 = .ok (.getfield 19, 3) := by decide +kernel
theorem d_Mod_clash_38 : decode b_Mod_clash 38 = .ok (.iload 4, 2) := by decide +kernel
theorem d_Mod_clash_40 : decode b_Mod_clash 40 = .ok (.iaload, 1) := by decide +kernel
theorem d_Mod_clash_41 : decode b_Mod_clash 41 = .ok (.aload_n 0, 1) := by decide +kernel
theorem d_Mod_clash_42 : decode b_Mod_clash 42 = .ok (.getfield 19, 3) := by decide +kernel
theorem d_Mod_clash_45 : decode b_Mod_clash 45 = .ok (.iload 5, 2) := by decide +kernel
theorem d_Mod_clash_47 : decode b_Mod_clash 47 = .ok (.iaload, 1) := by decide +kernel
theorem d_Mod_clash_48 : decode b_Mod_clash 48 = .ok (.if_icmp .ne 120, 3) := by decide +kernel
theorem d_Mod_clash_51 : decode b_Mod_clash 51 = .ok (.aload_n 0, 1) := by decide +kernel
theorem d_Mod_clash_52 : decode b_Mod_clash 52 = .ok (.getfield 26, 3) := by decide +kernel
theorem d_Mod_clash_55 : decode b_Mod_clash 55 = .ok (.iload 4, 2) := by decide +kernel
theorem d_Mod_clash_57 : decode b_Mod_clash 57 = .ok (.iaload, 1) := by decide +kernel
theorem d_Mod_clash_58 : decode b_Mod_clash 58 = .ok (.ifCond .eq 110, 3) := by decide +kernel
theorem d_Mod_clash_61 : decode b_Mod_clash 61 = .ok (.aload_n 0, 1) := by decide +kernel
theorem d_Mod_clash_62 : decode b_Mod_clash 62 = .ok (.getfield 26, 3) := by decide +kernel
theorem d_Mod_clash_65 : decode b_Mod_clash 65 = .ok (.iload 4, 2) := by decide +kernel
theorem d_Mod_clash_67 : decode b_Mod_clash 67 = .ok (.iaload, 1) := by decide +kernel
theorem d_Mod_clash_68 : decode b_Mod_clash 68 = .ok (.aload_n 0, 1) := by decide +kernel
theorem d_Mod_clash_69 : decode b_Mod_clash 69 = .ok (.getfield 26, 3) := by decide +kernel
theorem d_Mod_clash_72 : decode b_Mod_clash 72 = .ok (.iload 5, 2) := by decide +kernel
theorem d_Mod_clash_74 : decode b_Mod_clash 74 = .ok (.iaload, 1) := by decide +kernel
theorem d_Mod_clash_75 : decode b_Mod_clash 75 = .ok (.if_icmp .eq 6, 3) := by decide +kernel
theorem d_Mod_clash_78 : decode b_Mod_clash 78 = .ok (.goto 90, 3) := by decide +kernel
theorem d_Mod_clash_81 : decode b_Mod_clash 81 = .ok (.iconst 0, 1) := by decide +kernel
theorem d_Mod_clash_82 : decode b_Mod_clash 82 = .ok (.istore 6, 2) := by decide +kernel
theorem d_Mod_clash_84 : decode b_Mod_clash 84 = .ok (.iload 6, 2) := by decide +kernel
theorem d_Mod_clash_86 : decode b_Mod_clash 86 = .ok (.iconst 2, 1) := by decide +kernel
theorem d_Mod_clash_87 : decode b_Mod_clash 87 = .ok (.if_icmp .ge 81, 3) := by decide +kernel
theorem d_Mod_clash_90 : decode b_Mod_clash 90 = .ok (.aload_n 0, 1) := by decide +kernel
theorem d_Mod_clash_91 : decode b_Mod_clash 91 = .ok (.getfield 86, 3) := by decide +kernel
theorem d_Mod_clash_94 : decode b_Mod_clash 94 = .ok (.iconst 2, 1) := by decide +kernel
theorem d_Mod_clash_95 : decode b_Mod_clash 95 = .ok (.iload 4, 2) := by decide +kernel
theorem d_Mod_clash_97 : decode b_Mod_clash 97 = .ok (.imul, 1) := by decide +kernel
theorem d_Mod_clash_98 : decode b_Mod_clash 98 = .ok (.iload 6, 2) := by decide +kernel
theorem d_Mod_clash_100 : decode b_Mod_clash 100 = .ok (.iadd, 1) := by decide +kernel
theorem d_Mod_clash_101 : decode b_Mod_clash 101 = .ok (.iaload, 1) := by decide +kernel
theorem d_Mod_clash_102 : decode b_Mod_clash 102 = .ok (.ifCond .eq 60, 3) := by decide +kernel
theorem d_Mod_clash_105 : decode b_Mod_clash 105 = .ok (.aload_n 0, 1) := by decide +kernel
theorem d_Mod_clash_106 : decode b_Mod_clash 106 = .ok (.getfield 86, 3) := by decide +kernel
theorem d_Mod_clash_109 : decode b_Mod_clash 109 = .ok (.iconst 2, 1) := by decide +kernel
theorem d_Mod_clash_110 : decode b_Mod_clash 110 = .ok (.iload 5, 2) := by decide +kernel
theorem d_Mod_clash_112 : decode b_Mod_clash 112 = .ok (.imul, 1) := by decide +kernel
theorem d_Mod_clash_113 : decode b_Mod_clash 113 = .ok (.iload 6, 2) := by decide +kernel
theorem d_Mod_clash_115 : decode b_Mod_clash 115 = .ok (.iadd, 1) := by decide +kernel
theorem d_Mod_clash_116 : decode b_Mod_clash 116 = .ok (.iaload, 1) := by decide +kernel
theorem d_Mod_clash_117 : decode b_Mod_clash 117 = .ok (.ifCond .ne 6, 3) := by decide +kernel
theorem d_Mod_clash_120 : decode b_Mod_clash 120 = .ok (.goto 42, 3) := by decide +kernel
theorem d_Mod_clash_123 : decode b_Mod_clash 123 = .ok (.iload_n 3, 1) := by decide +kernel
theorem d_Mod_clash_124 : decode b_Mod_clash 124 = .ok (.iload_n 1, 1) := by decide +kernel
theorem d_Mod_clash_125 : decode b_Mod_clash 125 = .ok (.if_icmp .ne 34, 3) := by decide +kernel
theorem d_Mod_clash_128 : decode b_Mod_clash 128 = .ok (.iload_n 2, 1) := by decide +kernel
theorem d_Mod_clash_129 : decode b_Mod_clash 129 = .ok (.ifCond .ne 8, 3) := by decide +kernel
theorem d_Mod_clash_132 : decode b_Mod_clash 132 = .ok (.iload 4, 2) := by decide +kernel
theorem d_Mod_clash_134 : decode b_Mod_clash 134 = .ok (.goto 24, 3) := by decide +kernel
theorem d_Mod_clash_137 : decode b_Mod_clash 137 = .ok (.iload_n 2, 1) := by decide +kernel
theorem d_Mod_clash_138 : decode b_Mod_clash 138 = .ok (.iconst 1, 1) := by decide +kernel
theorem d_Mod_clash_139 : decode b_Mod_clash 139 = .ok (.if_icmp .ne 8, 3) := by decide +kernel
theorem d_Mod_clash_142 : decode b_Mod_clash 142 = .ok (.iload 5, 2) := by decide +kernel
theorem d_Mod_clash_144 : decode b_Mod_clash 144 = .ok (.goto 14, 3) := by decide +kernel
theorem d_Mod_clash_147 : decode b_Mod_clash 147 = .ok (.iload_n 2, 1) := by decide +kernel
theorem d_Mod_clash_148 : decode b_Mod_clash 148 = .ok (.iconst 2, 1) := by decide +kernel
theorem d_Mod_clash_149 : decode b_Mod_clash 149 = .ok (.if_icmp .ne 8, 3) := by decide +kernel
theorem d_Mod_clash_152 : decode b_Mod_clash 152 = .ok (.iload 6, 2) := by decide +kernel
theorem d_Mod_clash_154 : decode b_Mod_clash 154 = .ok (.goto 4, 3) := by decide +kernel
theorem d_Mod_clash_157 : decode b_Mod_clash 157 = .ok (.iconst (-1), 1) := by decide +kernel
theorem d_Mod_clash_158 : decode b_Mod_clash 158 = .ok (.ireturn, 1) := by decide +kernel
theorem d_Mod_clash_159 : decode b_Mod_clash 159 = .ok (.iinc 3 1, 3) := by decide +kernel
theorem d_Mod_clash_162 : decode b_Mod_clash 162 = .ok (.iinc 6 1, 3) := by decide +kernel
theorem d_Mod_clash_165 : decode b_Mod_clash 165 = .ok (.goto (-81), 3) := by decide +kernel
theorem d_Mod_clash_168 : decode b_Mod_clash 168 = .ok (.iinc 5 1, 3) := by decide +kernel
theorem d_Mod_clash_171 : decode b_Mod_clash 171 = .ok (.goto (-146), 3) := by decide +kernel
theorem d_Mod_clash_174 : decode b_Mod_clash 174 = .ok (.iinc 4 1, 3) := by decide +kernel
theorem d_Mod_clash_177 : decode b_Mod_clash 177 = .ok (.goto (-167), 3) := by decide +kernel
theorem d_Mod_clash_180 : decode b_Mod_clash 180 = .ok (.iconst (-1), 1) := by decide +kernel
theorem d_Mod_clash_181 : decode b_Mod_clash 181 = .ok (.ireturn, 1) := by decide +kernel
theorem d_Mod_without_0 : decode b_Mod_without 0 = .ok (.aload_n 0, 1) := by decide +kernel
theorem d_Mod_without_1 : decode b_Mod_without 1 = .ok (.iconst 0, 1) := by decide +kernel
theorem d_Mod_without_2 : decode b_Mod_without 2 = .ok (.putfield 102, 3) := by decide +kernel
theorem d_Mod_without_5 : decode b_Mod_without 5 = .ok (.aload_n 0, 1) := by decide +kernel
theorem d_Mod_without_6 : decode b_Mod_without 6 = .ok (.getfield 199, 3) := by decide +kernel
theorem d_Mod_without_9 : decode b_Mod_without 9 = .ok (.ifCond .eq 18, 3) := by decide +kernel
theorem d_Mod_without_12 : decode b_Mod_without 12 = .ok (.aload_n 0, 1) := by decide +kernel
theorem d_Mod_without_13 : decode b_Mod_without 13 = .ok (.getfield 114, 3) := by decide +kernel
theorem d_Mod_without_16 : decode b_Mod_without 16 = .ok (.ifCond .ne 11, 3) := by decide +kernel
theorem d_Mod_without_19 : decode b_Mod_without 19 = .ok (.aload_n 0, 1) := by decide +kernel
theorem d_Mod_without_20 : decode b_Mod_without 20 = .ok (.iload_n 1, 1) := by decide +kernel
theorem d_Mod_without_21 : decode b_Mod_without 21 = .ok (.invokevirtual 130, 3) := by decide +kernel
theorem d_Mod_without_24 : decode b_Mod_without 24 = .ok (.ifCond .ne 5, 3) := by decide +kernel
theorem d_Mod_without_27 : decode b_Mod_without 27 = .ok (.iconst (-1), 1) := by decide +kernel
theorem d_Mod_without_28 : decode b_Mod_without 28 = .ok (.ireturn, 1) := by decide +kernel
theorem d_Mod_without_29 : decode b_Mod_without 29 = .ok (.aload_n 0, 1) := by decide +kernel
theorem d_Mod_without_30 : decode b_Mod_without 30 = .ok (.aload_n 0, 1) := by decide +kernel
theorem d_Mod_without_31 : decode b_Mod_without 31 = .ok (.getfield 35, 3) := by decide +kernel
theorem d_Mod_without_34 : decode b_Mod_without 34 = .ok (.iload_n 1, 1) := by decide +kernel
theorem d_Mod_without_35 : decode b_Mod_without 35 = .ok (.iaload, 1) := by decide +kernel
theorem d_Mod_without_36 : decode b_Mod_without 36 = .ok (.iload_n 2, 1) := by decide +kernel
theorem d_Mod_without_37 : decode b_Mod_without 37 = .ok (.invokevirtual 126, 3) := by decide +kernel
theorem d_Mod_without_40 : decode b_Mod_without 40 = .ok (.istore_n 3, 1) := by decide +kernel
theorem d_Mod_without_41 : decode b_Mod_without 41 = .ok (.iload_n 3, 1) := by decide +kernel
theorem d_Mod_without_42 : decode b_Mod_without 42 = .ok (.iconst (-1), 1) := by decide +kernel
theorem d_Mod_without_43 : decode b_Mod_without 43 = .ok (.if_icmp .ne 7, 3) := by decide +kernel
theorem d_Mod_without_46 : decode b_Mod_without 46 = .ok (.iconst (-1), 1) := by decide +kernel
theorem d_Mod_without_47 : decode b_Mod_without 47 = .ok (.goto 13, 3) := by decide +kernel
theorem d_Mod_without_50 : decode b_Mod_without 50 = .ok (.aload_n 0, 1) := by decide +kernel
theorem d_Mod_without_51 : decode b_Mod_without 51 = .ok (.iload_n 1, 1) := by decide +kernel
theorem d_Mod_without_52 : decode b_Mod_without 52 = .ok (.iload_n 3, 1) := by decide +kernel
theorem d_Mod_without_53 : decode b_Mod_without 53 = .ok (.aload_n 0, 1) := by decide +kernel
theorem d_Mod_without_54 : decode b_Mod_without 54 = .ok (.getfield 133, 3) := by decide +kernel
theorem d_Mod_without_57 : decode b_Mod_without 57 = .ok (.invokevirtual 136, 3) := by decide +kernel
theorem d_Mod_without_60 : decode b_Mod_without 60 = .ok (.istore 4, 2) := by decide +kernel
theorem d_Mod_without_62 : decode b_Mod_without 62 = .ok (.iload 4, 2) := by decide +kernel
theorem d_Mod_without_64 : decode b_Mod_without 64 = .ok (.iconst (-1), 1) := by decide +kernel
theorem d_Mod_without_65 : decode b_Mod_without 65 = .ok (.if_icmp .ne 5, 3) := by decide +kernel
theorem d_Mod_without_68 : decode b_Mod_without 68 = .ok (.iconst (-1), 1) := by decide +kernel
theorem d_Mod_without_69 : decode b_Mod_without 69 = .ok (.ireturn, 1) := by decide +kernel
theorem d_Mod_without_70 : decode b_Mod_without 70 = .ok (.aload_n 0, 1) := by decide +kernel
theorem d_Mod_without_71 : decode b_Mod_without 71 = .ok (.iload 4, 2) := by decide +kernel
theorem d_Mod_without_73 : decode b_Mod_without 73 = .ok (.putfield 89, 3) := by decide +kernel
theorem d_Mod_without_76 : decode b_Mod_without 76 = .ok (.aload_n 0, 1) := by decide +kernel
theorem d_Mod_without_77 : decode b_Mod_without 77 = .ok (.invokevirtual 202, 3) := by decide +kernel
theorem d_Mod_without_80 : decode b_Mod_without 80 = .ok (.pop, 1) := by decide +kernel
theorem d_Mod_without_81 : decode b_Mod_without 81 = .ok (.aload_n 0, 1) := by decide +kernel
theorem d_Mod_without_82 : decode b_Mod_without 82 = .ok (.iconst (-1), 1) := by decide +kernel
theorem d_Mod_without_83 : decode b_Mod_without 83 = .ok (.putfield 89, 3) := by decide +kernel
theorem d_Mod_without_86 : decode b_Mod_without 86 = .ok (.aload_n 0, 1) := by decide +kernel
theorem d_Mod_without_87 : decode b_Mod_without 87 = .ok (.iconst 0, 1) := by decide +kernel
theorem d_Mod_without_88 : decode b_Mod_without 88 = .ok (.putfield 212, 3) := by decide +kernel
theorem d_Mod_without_91 : decode b_Mod_without 91 = .ok (.iconst 0, 1) := by decide +kernel
theorem d_Mod_without_92 : decode b_Mod_without 92 = .ok (.istore 5, 2) := by decide +kernel
theorem d_Mod_without_94 : decode b_Mod_without 94 = .ok (.iload 5, 2) := by decide +kernel
theorem d_Mod_without_96 : decode b_Mod_without 96 = .ok (.iconst 2, 1) := by decide +kernel
theorem d_Mod_without_97 : decode b_Mod_without 97 = .ok (.aload_n 0, 1) := by decide +kernel
theorem d_Mod_without_98 : decode b_Mod_without 98 = .ok (.getfield 193, 3) := by decide +kernel
theorem d_Mod_without_101 : decode b_Mod_without 101 = .ok (.imul, 1) := by decide +kernel
theorem d_Mod_without_102 : decode b_Mod_without 102 = .ok (.if_icmp .ge 53, 3) := by decide +kernel
theorem d_Mod_without_105 : decode b_Mod_without 105 = .ok (.aload_n 0, 1) := by decide +kernel
theorem d_Mod_without_106 : decode b_Mod_without 106 = .ok (.getfield 86, 3) := by decide +kernel
theorem d_Mod_without_109 : decode b_Mod_without 109 = .ok (.iload 5, 2) := by decide +kernel
theorem d_Mod_without_111 : decode b_Mod_without 111 = .ok (.iaload, 1) := by decide +kernel
theorem d_Mod_without_112 : decode b_Mod_without 112 = .ok (.ifCond .eq 37, 3) := by decide +kernel
theorem d_Mod_without_115 : decode b_Mod_without 115 = .ok (.aload_n 0, 1) := by decide +kernel
theorem d_Mod_without_116 : decode b_Mod_without 116 = .ok (.getfield 77, 3) := by decide +kernel
theorem d_Mod_without_119 : decode b_Mod_without 119 = .ok (.iload 5, 2) := by decide +kernel
theorem d_Mod_without_121 : decode b_Mod_without 121 = .ok (.iaload, 1) := by decide +kernel
theorem d_Mod_without_122 : decode b_Mod_without 122 = .ok (.ifCond .le 6, 3) := by decide +kernel
theorem d_Mod_without_125 : decode b_Mod_without 125 = .ok (.goto 24, 3) := by decide +kernel
theorem d_Mod_without_128 : decode b_Mod_without 128 = .ok (.aload_n 0, 1) := by decide +kernel
theorem d_Mod_without_129 : decode b_Mod_without 129 = .ok (.getfield 93, 3) := by decide +kernel
theorem d_Mod_without_132 : decode b_Mod_without 132 = .ok (.aload_n 0, 1) := by decide +kernel
theorem d_Mod_without_133 : decode b_Mod_without 133 = .ok (.getfield 212, 3) := by decide +kernel
theorem d_Mod_without_136 : decode b_Mod_without 136 = .ok (.iload 5, 2) := by decide +kernel
theorem d_Mod_without_138 : decode b_Mod_without 138 = .ok (.iastore, 1) := by decide +kernel
theorem d_Mod_without_139 : decode b_Mod_without 139 = .ok (.aload_n 0, 1) := by decide +kernel
theorem d_Mod_without_140 : decode b_Mod_without 140 = .ok (.dup, 1) := by decide +kernel
theorem d_Mod_without_141 : decode b_Mod_without 141 = .ok (.getfield 212, 3) := by decide +kernel
theorem d_Mod_without_144 : decode b_Mod_without 144 = .ok (.iconst 1, 1) := by decide +kernel
theorem d_Mod_without_145 : decode b_Mod_without 145 = .ok (.iadd, 1) := by decide +kernel
theorem d_Mod_without_146 : decode b_Mod_without 146 = .ok (.putfield 212, 3) := by decide +kernel
theorem d_Mod_without_149 : decode b_Mod_without 149 = .ok (.iinc 5 1, 3) := by decide +kernel
theorem d_Mod_without_152 : decode b_Mod_without 152 = .ok (.goto (-58), 3) := by decide +kernel
theorem d_Mod_without_155 : decode b_Mod_without 155 = .ok (.aload_n 0, 1) := by decide +kernel
theorem d_Mod_without_156 : decode b_Mod_without 156 = .ok (.getfield 212, 3) := by decide +kernel
theorem d_Mod_without_159 : decode b_Mod_without 159 = .ok (.ireturn, 1) := by decide +kernel
theorem d_Mod_left_0 : decode b_Mod_left 0 = .ok (.aload_n 0, 1) := by decide +kernel
theorem d_Mod_left_1 : decode b_Mod_left 1 = .ok (.iconst 0, 1) := by decide +kernel
theorem d_Mod_left_2 : decode b_Mod_left 2 = .ok (.putfield 102, 3) := by decide +kernel
theorem d_Mod_left_5 : decode b_Mod_left 5 = .ok (.iload_n 1, 1) := by decide +kernel
theorem d_Mod_left_6 : decode b_Mod_left 6 = .ok (.ifCond .lt 11, 3) := by decide +kernel
theorem d_Mod_left_9 : decode b_Mod_left 9 = .ok (.iload_n 1, 1) := by decide +kernel
theorem d_Mod_left_10 : decode b_Mod_left 10 = .ok (.aload_n 0, 1) := by decide +kernel
theorem d_Mod_left_11 : decode b_Mod_left 11 = .ok (.getfield 212, 3) := by decide +kernel
theorem d_Mod_left_14 : decode b_Mod_left 14 = .ok (.if_icmp .lt 7, 3) := by decide +kernel
theorem d_Mod_left_17 : decode b_Mod_left 17 = .ok (.iconst (-1), 1) := by decide +kernel
theorem d_Mod_left_18 : decode b_Mod_left 18 = .ok (.goto 9, 3) := by decide +kernel
theorem d_Mod_left_21 : decode b_Mod_left 21 = .ok (.aload_n 0, 1) := by decide +kernel
theorem d_Mod_left_22 : decode b_Mod_left 22 = .ok (.getfield 93, 3) := by decide +kernel
theorem d_Mod_left_25 : decode b_Mod_left 25 = .ok (.iload_n 1, 1) := by decide +kernel
theorem d_Mod_left_26 : decode b_Mod_left 26 = .ok (.iaload, 1) := by decide +kernel
theorem d_Mod_left_27 : decode b_Mod_left 27 = .ok (.ireturn, 1) := by decide +kernel
