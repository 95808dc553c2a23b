theorem d_Clo_followOn_0 : decode b_Clo_followOn 0 = .ok (.aload_n 0, 1) := by decide +kernel
theorem d_Clo_followOn_1 : decode b_Clo_followOn 1 = .ok (.getfield 22, 3) := by decide +kernel
theorem d_Clo_followOn_4 : decode b_Clo_followOn 4 = .ok (.getfield 77, 3) := by decide +kernel
theorem d_Clo_followOn_7 : decode b_Clo_followOn 7 = .ok (.getfield 81, 3) := by decide +kernel
theorem d_Clo_followOn_10 : decode b_Clo_followOn 10 = .ok (.iload_n 1, 1) := by decide +kernel
theorem d_Clo_followOn_11 : decode b_Clo_followOn 11 = .ok (.iaload, 1) := by decide +kernel
theorem d_Clo_followOn_12 : decode b_Clo_followOn 12 = .ok (.istore 4, 2) := by decide +kernel
theorem d_Clo_followOn_14 : decode b_Clo_followOn 14 = .ok (.aload_n 0, 1) := by decide +kernel
theorem d_Clo_followOn_15 : decode b_Clo_followOn 15 = .ok (.getfield 22, 3) := by decide +kernel
theorem d_Clo_followOn_18 : decode b_Clo_followOn 18 = .ok (.getfield 90, 3) := by decide +kernel
theorem d_Clo_followOn_21 : decode b_Clo_followOn 21 = .ok (.getfield 94, 3) := by decide +kernel
theorem d_Clo_followOn_24 : decode b_Clo_followOn 24 = .ok (.iload 4, 2) := by decide +kernel
theorem d_Clo_followOn_26 : decode b_Clo_followOn 26 = .ok (.baload, 1) := by decide +kernel
theorem d_Clo_followOn_27 : decode b_Clo_followOn 27 = .ok (.ifCond .ne 30, 3) := by decide +kernel
theorem d_Clo_followOn_30 : decode b_Clo_followOn 30 = .ok (.aload_n 0, 1) := by decide +kernel
theorem d_Clo_followOn_31 : decode b_Clo_followOn 31 = .ok (.iload 4, 2) := by decide +kernel
theorem d_Clo_followOn_33 : decode b_Clo_followOn 33 = .ok (.iconst 1, 1) := by decide +kernel
theorem d_Clo_followOn_34 : decode b_Clo_followOn 34 = .ok (.iload_n 2, 1) := by decide +kernel
theorem d_Clo_followOn_35 : decode b_Clo_followOn 35 = .ok (.isub, 1) := by decide +kernel
theorem d_Clo_followOn_36 : decode b_Clo_followOn 36 = .ok (.invokevirtual 142, 3) := by decide +kernel
theorem d_Clo_followOn_39 : decode b_Clo_followOn 39 = .ok (.iload_n 3, 1) := by decide +kernel
theorem d_Clo_followOn_40 : decode b_Clo_followOn 40 = .ok (.invokestatic 103, 3) := by decide +kernel
theorem d_Clo_followOn_43 : decode b_Clo_followOn 43 = .ok (.ifCond .eq 14, 3) := by decide +kernel
theorem d_Clo_followOn_46 : decode b_Clo_followOn 46 = .ok (.aload_n 0, 1) := by decide +kernel
theorem d_Clo_followOn_47 : decode b_Clo_followOn 47 = .ok (.iload_n 1, 1) := by decide +kernel
theorem d_Clo_followOn_48 : decode b_Clo_followOn 48 = .ok (.iconst 1, 1) := by decide +kernel
theorem d_Clo_followOn_49 : decode b_Clo_followOn 49 = .ok (.iload_n 2, 1) := by decide +kernel
theorem d_Clo_followOn_50 : decode b_Clo_followOn 50 = .ok (.isub, 1) := by decide +kernel
theorem d_Clo_followOn_51 : decode b_Clo_followOn 51 = .ok (.iload_n 3, 1) := by decide +kernel
theorem d_Clo_followOn_52 : decode b_Clo_followOn 52 = .ok (.iconst 1, 1) := by decide +kernel
theorem d_Clo_followOn_53 : decode b_Clo_followOn 53 = .ok (.iadd, 1) := by decide +kernel
theorem d_Clo_followOn_54 : decode b_Clo_followOn 54 = .ok (.invokevirtual 106, 3) := by decide +kernel
theorem d_Clo_followOn_57 : decode b_Clo_followOn 57 = .ok (.iconst 0, 1) := by decide +kernel
theorem d_Clo_followOn_58 : decode b_Clo_followOn 58 = .ok (.istore 5, 2) := by decide +kernel
theorem d_Clo_followOn_60 : decode b_Clo_followOn 60 = .ok (.iload 5, 2) := by decide +kernel
theorem d_Clo_followOn_62 : decode b_Clo_followOn 62 = .ok (.aload_n 0, 1) := by decide +kernel
theorem d_Clo_followOn_63 : decode b_Clo_followOn 63 = .ok (.getfield 22, 3) := by decide +kernel
theorem d_Clo_followOn_66 : decode b_Clo_followOn 66 = .ok (.getfield 121, 3) := by decide +kernel
theorem d_Clo_followOn_69 : decode b_Clo_followOn 69 = .ok (.if_icmp .ge 34, 3) := by decide +kernel
theorem d_Clo_followOn_72 : decode b_Clo_followOn 72 = .ok (.aload_n 0, 1) := by decide +kernel
theorem d_Clo_followOn_73 : decode b_Clo_followOn 73 = .ok (.getfield 22, 3) := by decide +kernel
theorem d_Clo_followOn_76 : decode b_Clo_followOn 76 = .ok (.getfield 124, 3) := by decide +kernel
theorem d_Clo_followOn_79 : decode b_Clo_followOn 79 = .ok (.getfield 136, 3) := by decide +kernel
theorem d_Clo_followOn_82 : decode b_Clo_followOn 82 = .ok (.iload 5, 2) := by decide +kernel
theorem d_Clo_followOn_84 : decode b_Clo_followOn 84 = .ok (.iaload, 1) := by decide +kernel
theorem d_Clo_followOn_85 : decode b_Clo_followOn 85 = .ok (.iload_n 1, 1) := by decide +kernel
theorem d_Clo_followOn_86 : decode b_Clo_followOn 86 = .ok (.if_icmp .ne 11, 3) := by decide +kernel
theorem d_Clo_followOn_89 : decode b_Clo_followOn 89 = .ok (.aload_n 0, 1) := by decide +kernel
theorem d_Clo_followOn_90 : decode b_Clo_followOn 90 = .ok (.iload 5, 2) := by decide +kernel
theorem d_Clo_followOn_92 : decode b_Clo_followOn 92 = .ok (.iload_n 2, 1) := by decide +kernel
theorem d_Clo_followOn_93 : decode b_Clo_followOn 93 = .ok (.iload_n 3, 1) := by decide +kernel
theorem d_Clo_followOn_94 : decode b_Clo_followOn 94 = .ok (.invokevirtual 145, 3) := by decide +kernel
theorem d_Clo_followOn_97 : decode b_Clo_followOn 97 = .ok (.iinc 5 1, 3) := by decide +kernel
theorem d_Clo_followOn_100 : decode b_Clo_followOn 100 = .ok (.goto (-40), 3) := by decide +kernel
theorem d_Clo_followOn_103 : decode b_Clo_followOn 103 = .ok (.return_, 1) := by decide +kernel
theorem d_Clo_follow_0 : decode b_Clo_follow 0 = .ok (.iload_n 1, 1) := by decide +kernel
theorem d_Clo_follow_1 : decode b_Clo_follow 1 = .ok (.iconst 2, 1) := by decide +kernel
theorem d_Clo_follow_2 : decode b_Clo_follow 2 = .ok (.irem, 1) := by decide +kernel
theorem d_Clo_follow_3 : decode b_Clo_follow 3 = .ok (.istore_n 2, 1) := by decide +kernel
theorem d_Clo_follow_4 : decode b_Clo_follow 4 = .ok (.aload_n 0, 1) := by decide +kernel
theorem d_Clo_follow_5 : decode b_Clo_follow 5 = .ok (.getfield 9, 3) := by decide +kernel
theorem d_Clo_follow_8 : decode b_Clo_follow 8 = .ok (.iload_n 1, 1) := by decide +kernel
theorem d_Clo_follow_9 : decode b_Clo_follow 9 = .ok (.iaload, 1) := by decide +kernel
theorem d_Clo_follow_10 : decode b_Clo_follow 10 = .ok (.istore_n 3, 1) := by decide +kernel
theorem d_Clo_follow_11 : decode b_Clo_follow 11 = .ok (.iload_n 1, 1) := by decide +kernel
theorem d_Clo_follow_12 : decode b_Clo_follow 12 = .ok (.bipush 20, 2) := by decide +kernel
theorem d_Clo_follow_14 : decode b_Clo_follow 14 = .ok (.if_icmp .ge 15, 3) := by decide +kernel
theorem d_Clo_follow_17 : decode b_Clo_follow 17 = .ok (.aload_n 0, 1) := by decide +kernel
theorem d_Clo_follow_18 : decode b_Clo_follow 18 = .ok (.iload_n 1, 1) := by decide +kernel
theorem d_Clo_follow_19 : decode b_Clo_follow 19 = .ok (.iconst 2, 1) := by decide +kernel
theorem d_Clo_follow_20 : decode b_Clo_follow 20 = .ok (.idiv, 1) := by decide +kernel
theorem d_Clo_follow_21 : decode b_Clo_follow 21 = .ok (.iload_n 2, 1) := by decide +kernel
theorem d_Clo_follow_22 : decode b_Clo_follow 22 = .ok (.iload_n 3, 1) := by decide +kernel
theorem d_Clo_follow_23 : decode b_Clo_follow 23 = .ok (.invokevirtual 46, 3) := by decide +kernel
theorem d_Clo_follow_26 : decode b_Clo_follow 26 = .ok (.goto 36, 3) := by decide +kernel
theorem d_Clo_follow_29 : decode b_Clo_follow 29 = .ok (.iload_n 1, 1) := by decide +kernel
theorem d_Clo_follow_30 : decode b_Clo_follow 30 = .ok (.bipush 100, 2) := by decide +kernel
theorem d_Clo_follow_32 : decode b_Clo_follow 32 = .ok (.if_icmp .ge 18, 3) := by decide +kernel
theorem d_Clo_follow_35 : decode b_Clo_follow 35 = .ok (.aload_n 0, 1) := by decide +kernel
theorem d_Clo_follow_36 : decode b_Clo_follow 36 = .ok (.iload_n 1, 1) := by decide +kernel
theorem d_Clo_follow_37 : decode b_Clo_follow 37 = .ok (.bipush 20, 2) := by decide +kernel
theorem d_Clo_follow_39 : decode b_Clo_follow 39 = .ok (.isub, 1) := by decide +kernel
theorem d_Clo_follow_40 : decode b_Clo_follow 40 = .ok (.iconst 2, 1) := by decide +kernel
theorem d_Clo_follow_41 : decode b_Clo_follow 41 = .ok (.idiv, 1) := by decide +kernel
theorem d_Clo_follow_42 : decode b_Clo_follow 42 = .ok (.iload_n 2, 1) := by decide +kernel
theorem d_Clo_follow_43 : decode b_Clo_follow 43 = .ok (.iload_n 3, 1) := by decide +kernel
theorem d_Clo_follow_44 : decode b_Clo_follow 44 = .ok (.invokevirtual 49, 3) := by decide +kernel
theorem d_Clo_follow_47 : decode b_Clo_follow 47 = .ok (.goto 15, 3) := by decide +kernel
theorem d_Clo_follow_50 : decode b_Clo_follow 50 = .ok (.aload_n 0, 1) := by decide +kernel
theorem d_Clo_follow_51 : decode b_Clo_follow 51 = .ok (.iload_n 1, 1) := by decide +kernel
theorem d_Clo_follow_52 : decode b_Clo_follow 52 = .ok (.bipush 100, 2) := by decide +kernel
theorem d_Clo_follow_54 : decode b_Clo_follow 54 = .ok (.isub, 1) := by decide +kernel
theorem d_Clo_follow_55 : decode b_Clo_follow 55 = .ok (.iconst 2, 1) := by decide +kernel
theorem d_Clo_follow_56 : decode b_Clo_follow 56 = .ok (.idiv, 1) := by decide +kernel
theorem d_Clo_follow_57 : decode b_Clo_follow 57 = .ok (.iload_n 2, 1) := by decide +kernel
theorem d_Clo_follow_58 : decode b_Clo_follow 58 = .ok (.iload_n 3, 1) := by decide +kernel
theorem d_Clo_follow_59 : decode b_Clo_follow 59 = .ok (.invokevirtual 52, 3) := by decide +kernel
theorem d_Clo_follow_62 : decode b_Clo_follow 62 = .ok (.return_, 1) := by decide +kernel
theorem d_Clo_close_0 : decode b_Clo_close 0 = .ok (.iconst 0, 1) := by decide +kernel
theorem d_Clo_close_1 : decode b_Clo_close 1 = .ok (.istore_n 1, 1) := by decide +kernel
theorem d_Clo_close_2 : decode b_Clo_close 2 = .ok (.iload_n 1, 1) := by decide +kernel
theorem d_Clo_close_3 : decode b_Clo_close 3 = .ok (.sipush 220, 3) := by decide +kernel
theorem d_Clo_close_6 : decode b_Clo_close 6 = .ok (.if_icmp .ge 16, 3) := by decide +kernel
theorem d_Clo_close_9 : decode b_Clo_close 9 = .ok (.aload_n 0, 1) := by decide +kernel
theorem d_Clo_close_10 : decode b_Clo_close 10 = .ok (.getfield 9, 3) := by decide +kernel
theorem d_Clo_close_13 : decode b_Clo_close 13 = .ok (.iload_n 1, 1) := by decide +kernel
theorem d_Clo_close_14 : decode b_Clo_close 14 = .ok (.iconst 0, 1) := by decide +kernel
theorem d_Clo_close_15 : decode b_Clo_close 15 = .ok (.iastore, 1) := by decide +kernel
theorem d_Clo_close_16 : decode b_Clo_close 16 = .ok (.iinc 1 1, 3) := by decide +kernel
theorem d_Clo_close_19 : decode b_Clo_close 19 = .ok (.goto (-17), 3) := by decide +kernel
theorem d_Clo_close_22 : decode b_Clo_close 22 = .ok (.aload_n 0, 1) := by decide +kernel
theorem d_Clo_close_23 : decode b_Clo_close 23 = .ok (.iconst 0, 1) := by decide +kernel
theorem d_Clo_close_24 : decode b_Clo_close 24 = .ok (.putfield 18, 3) := by decide +kernel
theorem d_Clo_close_27 : decode b_Clo_close 27 = .ok (.iconst 0, 1) := by decide +kernel
theorem d_Clo_close_28 : decode b_Clo_close 28 = .ok (.istore_n 1, 1) := by decide +kernel
theorem d_Clo_close_29 : decode b_Clo_close 29 = .ok (.iload_n 1, 1) := by decide +kernel
theorem d_Clo_close_30 : decode b_Clo_close 30 = .ok (.aload_n 0, 1) := by decide +kernel
theorem d_Clo_close_31 : decode b_Clo_close 31 = .ok (.getfield 22, 3) := by decide +kernel
theorem d_Clo_close_34 : decode b_Clo_close 34 = .ok (.getfield 26, 3) := by decide +kernel
theorem d_Clo_close_37 : decode b_Clo_close 37 = .ok (.if_icmp .ge 30, 3) := by decide +kernel
theorem d_Clo_close_40 : decode b_Clo_close 40 = .ok (.aload_n 0, 1) := by decide +kernel
theorem d_Clo_close_41 : decode b_Clo_close 41 = .ok (.getfield 22, 3) := by decide +kernel
theorem d_Clo_close_44 : decode b_Clo_close 44 = .ok (.getfield 31, 3) := by decide +kernel
theorem d_Clo_close_47 : decode b_Clo_close 47 = .ok (.iload_n 1, 1) := by decide +kernel
theorem d_Clo_close_48 : decode b_Clo_close 48 = .ok (.invokestatic 34, 3) := by decide +kernel
theorem d_Clo_close_51 : decode b_Clo_close 51 = .ok (.ifCond .eq 10, 3) := by decide +kernel
theorem d_Clo_close_54 : decode b_Clo_close 54 = .ok (.aload_n 0, 1) := by decide +kernel
theorem d_Clo_close_55 : decode b_Clo_close 55 = .ok (.iload_n 1, 1) := by decide +kernel
theorem d_Clo_close_56 : decode b_Clo_close 56 = .ok (.iconst 0, 1) := by decide +kernel
theorem d_Clo_close_57 : decode b_Clo_close 57 = .ok (.iconst 1, 1) := by decide +kernel
theorem d_Clo_close_58 : decode b_Clo_close 58 = .ok (.invokevirtual 38, 3) := by decide +kernel
theorem d_Clo_close_61 : decode b_Clo_close 61 = .ok (.iinc 1 1, 3) := by decide +kernel
theorem d_Clo_close_64 : decode b_Clo_close 64 = .ok (.goto (-35), 3) := by decide +kernel
theorem d_Clo_close_67 : decode b_Clo_close 67 = .ok (.iconst 0, 1) := by decide +kernel
theorem d_Clo_close_68 : decode b_Clo_close 68 = .ok (.istore_n 1, 1) := by decide +kernel
theorem d_Clo_close_69 : decode b_Clo_close 69 = .ok (.iload_n 1, 1) := by decide +kernel
theorem d_Clo_close_70 : decode b_Clo_close 70 = .ok (.aload_n 0, 1) := by decide +kernel
theorem d_Clo_close_71 : decode b_Clo_close 71 = .ok (.getfield 18, 3) := by decide +kernel
theorem d_Clo_close_74 : decode b_Clo_close 74 = .ok (.if_icmp .ge 26, 3) := by decide +kernel
theorem d_Clo_close_77 : decode b_Clo_close 77 = .ok (.iload_n 1, 1) := by decide +kernel
theorem d_Clo_close_78 : decode b_Clo_close 78 = .ok (.sipush 220, 3) := by decide +kernel
theorem d_Clo_close_81 : decode b_Clo_close 81 = .ok (.if_icmp .ge 19, 3) := by decide +kernel
theorem d_Clo_close_84 : decode b_Clo_close 84 = .ok (.aload_n 0, 1) := by decide +kernel
theorem d_Clo_close_85 : decode b_Clo_close 85 = .ok (.aload_n 0, 1) := by decide +kernel
theorem d_Clo_close_86 : decode b_Clo_close 86 = .ok (.getfield 15, 3) := by decide +kernel
theorem d_Clo_close_89 : decode b_Clo_close 89 = .ok (.iload_n 1, 1) := by decide +kernel
theorem d_Clo_close_90 : decode b_Clo_close 90 = .ok (.iaload, 1) := by decide +kernel
theorem d_Clo_close_91 : decode b_Clo_close 91 = .ok (.invokevirtual 42, 3) := by decide +kernel
theorem d_Clo_close_94 : decode b_Clo_close 94 = .ok (.iinc 1 1, 3) := by decide +kernel
theorem d_Clo_close_97 : decode b_Clo_close 97 = .ok (.goto (-28), 3) := by decide +kernel
theorem d_Clo_close_100 : decode b_Clo_close 100 = .ok (.return_, 1) := by decide +kernel
theorem d_Clo_greatestStage_0 : decode b_Clo_greatestStage 0 = .ok (.aload_n 0, 1) := by decide +kernel
theorem d_Clo_greatestStage_1 : decode b_Clo_greatestStage 1 = .ok (.getfield 18, 3) := by decide +kernel
theorem d_Clo_greatestStage_4 : decode b_Clo_greatestStage 4 = .ok (.ifCond .ne 7, 3) := by decide +kernel
theorem d_Clo_greatestStage_7 : decode b_Clo_greatestStage 7 = .ok (.iconst 0, 1) := by decide +kernel
theorem d_Clo_greatestStage_8 : decode b_Clo_greatestStage 8 = .ok (.goto 19, 3) := by decide +kernel
theorem d_Clo_greatestStage_11 : decode b_Clo_greatestStage 11 = .ok (.aload_n 0, 1) := by decide +kernel
theorem d_Clo_greatestStage_12 : decode b_Clo_greatestStage 12 = .ok (.getfield 9, 3) := by decide +kernel
theorem d_Clo_greatestStage_15 : decode b_Clo_greatestStage 15 = .ok (.aload_n 0, 1) := by decide +kernel
theorem d_Clo_greatestStage_16 : decode b_Clo_greatestStage 16 = .ok (.getfield 15, 3) := by decide +kernel
theorem d_Clo_greatestStage_19 : decode b_Clo_greatestStage 19 = .ok (.aload_n 0, 1) := by decide +kernel
theorem d_Clo_greatestStage_20 : decode b_Clo_greatestStage 20 = .ok (.getfield 18, 3) := by decide +kernel
theorem d_Clo_greatestStage_23 : decode b_Clo_greatestStage 23 = .ok (.iconst 1, 1) := by decide +kernel
theorem d_Clo_greatestStage_24 : decode b_Clo_greatestStage 24 = .ok (.isub, 1) := by decide +kernel
theorem d_Clo_greatestStage_25 : decode b_Clo_greatestStage 25 = .ok (.iaload, 1) := by decide +kernel
theorem d_Clo_greatestStage_26 : decode b_Clo_greatestStage 26 = .ok (.iaload, 1) := by decide +kernel
theorem d_Clo_greatestStage_27 : decode b_Clo_greatestStage 27 = .ok (.ireturn, 1) := by decide +kernel
theorem d_FU_run_0 : decode b_FU_run 0 = .ok (.iload_n 1, 1) := by decide +kernel
theorem d_FU_run_1 : decode b_FU_run 1 = .ok (.bipush 8, 2) := by decide +kernel
theorem d_FU_run_3 : decode b_FU_run 3 = .ok (.invokestatic 90, 3) := by decide +kernel
theorem d_FU_run_6 : decode b_FU_run 6 = .ok (.ifCond .ne 5, 3) := by decide +kernel
theorem d_FU_run_9 : decode b_FU_run 9 = .ok (.iconst (-1), 1) := by decide +kernel
theorem d_FU_run_10 : decode b_FU_run 10 = .ok (.ireturn, 1) := by decide +kernel
theorem d_FU_run_11 : decode b_FU_run 11 = .ok (.aload_n 0, 1) := by decide +kernel
theorem d_FU_run_12 : decode b_FU_run 12 = .ok (.getfield 42, 3) := by decide +kernel
theorem d_FU_run_15 : decode b_FU_run 15 = .ok (.iload_n 1, 1) := by decide +kernel
theorem d_FU_run_16 : decode b_FU_run 16 = .ok (.invokevirtual 142, 3) := by decide +kernel
theorem d_FU_run_19 : decode b_FU_run 19 = .ok (.aload_n 0, 1) := by decide +kernel
theorem d_FU_run_20 : decode b_FU_run 20 = .ok (.getfield 51, 3) := by decide +kernel
theorem d_FU_run_23 : decode b_FU_run 23 = .ok (.invokevirtual 146, 3) := by decide +kernel
theorem d_FU_run_26 : decode b_FU_run 26 = .ok (.aload_n 0, 1) := by decide +kernel
theorem d_FU_run_27 : decode b_FU_run 27 = .ok (.iconst 1, 1) := by decide +kernel
theorem d_FU_run_28 : decode b_FU_run 28 = .ok (.putfield 75, 3) := by decide +kernel
theorem d_FU_run_31 : decode b_FU_run 31 = .ok (.aload_n 0, 1) := by decide +kernel
theorem d_FU_run_32 : decode b_FU_run 32 = .ok (.getfield 51, 3) := by decide +kernel
theorem d_FU_run_35 : decode b_FU_run 35 = .ok (.invokevirtual 149, 3) := by decide +kernel
theorem d_FU_run_38 : decode b_FU_run 38 = .ok (.ireturn, 1) := by decide +kernel
theorem d_FU_there_0 : decode b_FU_there 0 = .ok (.aload_n 0, 1) := by decide +kernel
theorem d_FU_there_1 : decode b_FU_there 1 = .ok (.getfield 12, 3) := by decide +kernel
theorem d_FU_there_4 : decode b_FU_there 4 = .ok (.iload_n 1, 1) := by decide +kernel
theorem d_FU_there_5 : decode b_FU_there 5 = .ok (.invokevirtual 86, 3) := by decide +kernel
theorem d_FU_there_8 : decode b_FU_there 8 = .ok (.ifCond .eq 23, 3) := by decide +kernel
theorem d_FU_there_11 : decode b_FU_there 11 = .ok (.iload_n 2, 1) := by decide +kernel
theorem d_FU_there_12 : decode b_FU_there 12 = .ok (.iconst 2, 1) := by decide +kernel
theorem d_FU_there_13 : decode b_FU_there 13 = .ok (.invokestatic 90, 3) := by decide +kernel
theorem d_FU_there_16 : decode b_FU_there 16 = .ok (.ifCond .eq 15, 3) := by decide +kernel
theorem d_FU_there_19 : decode b_FU_there 19 = .ok (.aload_n 0, 1) := by decide +kernel
theorem d_FU_there_20 : decode b_FU_there 20 = .ok (.getfield 51, 3) := by decide +kernel
theorem d_FU_there_23 : decode b_FU_there 23 = .ok (.iload_n 1, 1) := by decide +kernel
theorem d_FU_there_24 : decode b_FU_there 24 = .ok (.iload_n 2, 1) := by decide +kernel
theorem d_FU_there_25 : decode b_FU_there 25 = .ok (.invokevirtual 153, 3) := by decide +kernel
theorem d_FU_there_28 : decode b_FU_there 28 = .ok (.goto 4, 3) := by decide +kernel
theorem d_FU_there_31 : decode b_FU_there 31 = .ok (.iconst 0, 1) := by decide +kernel
theorem d_FU_there_32 : decode b_FU_there 32 = .ok (.ireturn, 1) := by decide +kernel
theorem d_FU_live_0 : decode b_FU_live 0 = .ok (.aload_n 0, 1) := by decide +kernel
theorem d_FU_live_1 : decode b_FU_live 1 = .ok (.getfield 26, 3) := by decide +kernel
theorem d_FU_live_4 : decode b_FU_live 4 = .ok (.iload_n 1, 1) := by decide +kernel
theorem d_FU_live_5 : decode b_FU_live 5 = .ok (.invokevirtual 120, 3) := by decide +kernel
theorem d_FU_live_8 : decode b_FU_live 8 = .ok (.ifCond .eq 23, 3) := by decide +kernel
theorem d_FU_live_11 : decode b_FU_live 11 = .ok (.iload_n 2, 1) := by decide +kernel
theorem d_FU_live_12 : decode b_FU_live 12 = .ok (.iconst 2, 1) := by decide +kernel
theorem d_FU_live_13 : decode b_FU_live 13 = .ok (.invokestatic 90, 3) := by decide +kernel
theorem d_FU_live_16 : decode b_FU_live 16 = .ok (.ifCond .eq 15, 3) := by decide +kernel
theorem d_FU_live_19 : decode b_FU_live 19 = .ok (.aload_n 0, 1) := by decide +kernel
theorem d_FU_live_20 : decode b_FU_live 20 = .ok (.getfield 51, 3) := by decide +kernel
theorem d_FU_live_23 : decode b_FU_live 23 = .ok (.iload_n 1, 1) := by decide +kernel
theorem d_FU_live_24 : decode b_FU_live 24 = .ok (.iload_n 2, 1) := by decide +kernel
theorem d_FU_live_25 : decode b_FU_live 25 = .ok (.invokevirtual 156, 3) := by decide +kernel
theorem d_FU_live_28 : decode b_FU_live 28 = .ok (.goto 4, 3) := by decide +kernel
theorem d_FU_live_31 : decode b_FU_live 31 = .ok (.iconst 0, 1) := by decide +kernel
theorem d_FU_live_32 : decode b_FU_live 32 = .ok (.ireturn, 1) := by decide +kernel
theorem d_FU_on_0 : decode b_FU_on 0 = .ok (.aload_n 0, 1) := by decide +kernel
theorem d_FU_on_1 : decode b_FU_on 1 = .ok (.getfield 19, 3) := by decide +kernel
theorem d_FU_on_4 : decode b_FU_on 4 = .ok (.iload_n 1, 1) := by decide +kernel
theorem d_FU_on_5 : decode b_FU_on 5 = .ok (.invokevirtual 127, 3) := by decide +kernel
theorem d_FU_on_8 : decode b_FU_on 8 = .ok (.ifCond .eq 23, 3) := by decide +kernel
theorem d_FU_on_11 : decode b_FU_on 11 = .ok (.iload_n 2, 1) := by decide +kernel
theorem d_FU_on_12 : decode b_FU_on 12 = .ok (.iconst 2, 1) := by decide +kernel
theorem d_FU_on_13 : decode b_FU_on 13 = .ok (.invokestatic 90, 3) := by decide +kernel
theorem d_FU_on_16 : decode b_FU_on 16 = .ok (.ifCond .eq 15, 3) := by decide +kernel
theorem d_FU_on_19 : decode b_FU_on 19 = .ok (.aload_n 0, 1) := by decide +kernel
theorem d_FU_on_20 : decode b_FU_on 20 = .ok (.getfield 51, 3) := by decide +kernel
theorem d_FU_on_23 : decode b_FU_on 23 = .ok (.iload_n 1, 1) := by decide +kernel
theorem d_FU_on_24 : decode b_FU_on 24 = .ok (.iload_n 2, 1) := by decide +kernel
theorem d_FU_on_25 : decode b_FU_on 25 = .ok (.invokevirtual 159, 3) := by decide +kernel
theorem d_FU_on_28 : decode b_FU_on 28 = .ok (.goto 4, 3) := by decide +kernel
theorem d_FU_on_31 : decode b_FU_on 31 = .ok (.iconst 0, 1) := by decide +kernel
theorem d_FU_on_32 : decode b_FU_on 32 = .ok (.ireturn, 1) := by decide +kernel
theorem d_Reas_isByRoot_0 : decode b_Reas_isByRoot 0 = .ok (.aload_n 0, 1) := by decide +kernel
theorem d_Reas_isByRoot_1 : decode b_Reas_isByRoot 1 = .ok (.getfield 9, 3) := by decide +kernel
theorem d_Reas_isByRoot_4 : decode b_Reas_isByRoot 4 = .ok (.getfield 36, 3) := by decide +kernel
theorem d_Reas_isByRoot_7 : decode b_Reas_isByRoot 7 = .ok (.getfield 42, 3) := by decide +kernel
theorem d_Reas_isByRoot_10 : decode b_Reas_isByRoot 10 = .ok (.iload_n 2, 1) := by decide +kernel
theorem d_Reas_isByRoot_11 : decode b_Reas_isByRoot 11 = .ok (.iaload, 1) := by decide +kernel
theorem d_Reas_isByRoot_12 : decode b_Reas_isByRoot 12 = .ok (.iload_n 1, 1) := by decide +kernel
theorem d_Reas_isByRoot_13 : decode b_Reas_isByRoot 13 = .ok (.if_icmp .ne 34, 3) := by decide +kernel
theorem d_Reas_isByRoot_16 : decode b_Reas_isByRoot 16 = .ok (.iload_n 3, 1) := by decide +kernel
theorem d_Reas_isByRoot_17 : decode b_Reas_isByRoot 17 = .ok (.ifCond .ne 30, 3) := by decide +kernel
theorem d_Reas_isByRoot_20 : decode b_Reas_isByRoot 20 = .ok (.aload_n 0, 1) := by decide +kernel
theorem d_Reas_isByRoot_21 : decode b_Reas_isByRoot 21 = .ok (.getfield 9, 3) := by decide +kernel
theorem d_Reas_isByRoot_24 : decode b_Reas_isByRoot 24 = .ok (.iload_n 2, 1) := by decide +kernel
theorem d_Reas_isByRoot_25 : decode b_Reas_isByRoot 25 = .ok (.invokevirtual 48, 3) := by decide +kernel
theorem d_Reas_isByRoot_28 : decode b_Reas_isByRoot 28 = .ok (.ifCond .eq 19, 3) := by decide +kernel
theorem d_Reas_isByRoot_31 : decode b_Reas_isByRoot 31 = .ok (.aload_n 0, 1) := by decide +kernel
theorem d_Reas_isByRoot_32 : decode b_Reas_isByRoot 32 = .ok (.getfield 15, 3) := by decide +kernel
theorem d_Reas_isByRoot_35 : decode b_Reas_isByRoot 35 = .ok (.iload_n 1, 1) := by decide +kernel
theorem d_Reas_isByRoot_36 : decode b_Reas_isByRoot 36 = .ok (.iconst 0, 1) := by decide +kernel
theorem d_Reas_isByRoot_37 : decode b_Reas_isByRoot 37 = .ok (.invokevirtual 52, 3) := by decide +kernel
theorem d_Reas_isByRoot_40 : decode b_Reas_isByRoot 40 = .ok (.ifCond .eq 7, 3) := by decide +kernel
theorem d_Reas_isByRoot_43 : decode b_Reas_isByRoot 43 = .ok (.iconst 1, 1) := by decide +kernel
theorem d_Reas_isByRoot_44 : decode b_Reas_isByRoot 44 = .ok (.goto 4, 3) := by decide +kernel
theorem d_Reas_isByRoot_47 : decode b_Reas_isByRoot 47 = .ok (.iconst 0, 1) := by decide +kernel
theorem d_Reas_isByRoot_48 : decode b_Reas_isByRoot 48 = .ok (.ireturn, 1) := by decide +kernel
theorem d_Reas_isByUser_0 : decode b_Reas_isByUser 0 = .ok (.iload_n 2, 1) := by decide +kernel
theorem d_Reas_isByUser_1 : decode b_Reas_isByUser 1 = .ok (.iconst 2, 1) := by decide +kernel
theorem d_Reas_isByUser_2 : decode b_Reas_isByUser 2 = .ok (.idiv, 1) := by decide +kernel
theorem d_Reas_isByUser_3 : decode b_Reas_isByUser 3 = .ok (.istore 5, 2) := by decide +kernel
theorem d_Reas_isByUser_5 : decode b_Reas_isByUser 5 = .ok (.iload_n 2, 1) := by decide +kernel
theorem d_Reas_isByUser_6 : decode b_Reas_isByUser 6 = .ok (.iconst 2, 1) := by decide +kernel
theorem d_Reas_isByUser_7 : decode b_Reas_isByUser 7 = .ok (.irem, 1) := by decide +kernel
theorem d_Reas_isByUser_8 : decode b_Reas_isByUser 8 = .ok (.istore 6, 2) := by decide +kernel
theorem d_Reas_isByUser_10 : decode b_Reas_isByUser 10 = .ok (.iload 5, 2) := by decide +kernel
theorem d_Reas_isByUser_12 : decode b_Reas_isByUser 12 = .ok (.aload_n 0, 1) := by decide +kernel
theorem d_Reas_isByUser_13 : decode b_Reas_isByUser 13 = .ok (.getfield 9, 3) := by decide +kernel
theorem d_Reas_isByUser_16 : decode b_Reas_isByUser 16 = .ok (.getfield 58, 3) := by decide +kernel
theorem d_Reas_isByUser_19 : decode b_Reas_isByUser 19 = .ok (.if_icmp .ge 36, 3) := by decide +kernel
theorem d_Reas_isByUser_22 : decode b_Reas_isByUser 22 = .ok (.aload_n 0, 1) := by decide +kernel
theorem d_Reas_isByUser_23 : decode b_Reas_isByUser 23 = .ok (.getfield 15, 3) := by decide +kernel
theorem d_Reas_isByUser_26 : decode b_Reas_isByUser 26 = .ok (.iload 5, 2) := by decide +kernel
theorem d_Reas_isByUser_28 : decode b_Reas_isByUser 28 = .ok (.iload 6, 2) := by decide +kernel
theorem d_Reas_isByUser_30 : decode b_Reas_isByUser 30 = .ok (.invokevirtual 62, 3) := by decide +kernel
theorem d_Reas_isByUser_33 : decode b_Reas_isByUser 33 = .ok (.ifCond .eq 22, 3) := by decide +kernel
theorem d_Reas_isByUser_36 : decode b_Reas_isByUser 36 = .ok (.aload_n 0, 1) := by decide +kernel
theorem d_Reas_isByUser_37 : decode b_Reas_isByUser 37 = .ok (.getfield 9, 3) := by decide +kernel
theorem d_Reas_isByUser_40 : decode b_Reas_isByUser 40 = .ok (.getfield 65, 3) := by decide +kernel
theorem d_Reas_isByUser_43 : decode b_Reas_isByUser 43 = .ok (.iload 5, 2) := by decide +kernel
theorem d_Reas_isByUser_45 : decode b_Reas_isByUser 45 = .ok (.iload 6, 2) := by decide +kernel
theorem d_Reas_isByUser_47 : decode b_Reas_isByUser 47 = .ok (.invokevirtual 69, 3) := by decide +kernel
theorem d_Reas_isByUser_50 : decode b_Reas_isByUser 50 = .ok (.iload 4, 2) := by decide +kernel
theorem d_Reas_isByUser_52 : decode b_Reas_isByUser 52 = .ok (.if_icmp .eq 5, 3) := by decide +kernel
theorem d_Reas_isByUser_55 : decode b_Reas_isByUser 55 = .ok (.iconst 0, 1) := by decide +kernel
theorem d_Reas_isByUser_56 : decode b_Reas_isByUser 56 = .ok (.ireturn, 1) := by decide +kernel
theorem d_Reas_isByUser_57 : decode b_Reas_isByUser 57 = .ok (.iload_n 1, 1) := by decide +kernel
theorem d_Reas_isByUser_58 : decode b_Reas_isByUser 58 = .ok (.iconst 1, 1) := by decide +kernel
theorem d_Reas_isByUser_59 : decode b_Reas_isByUser 59 = .ok (.if_icmp .ne 16, 3) := by decide +kernel
theorem d_Reas_isByUser_62 : decode b_Reas_isByUser 62 = .ok (.aload_n 0, 1) := by decide +kernel
theorem d_Reas_isByUser_63 : decode b_Reas_isByUser 63 = .ok (.getfield 9, 3) := by decide +kernel
theorem d_Reas_isByUser_66 : decode b_Reas_isByUser 66 = .ok (.iload 5, 2) := by decide +kernel
theorem d_Reas_isByUser_68 : decode b_Reas_isByUser 68 = .ok (.iload_n 3, 1) := by decide +kernel
theorem d_Reas_isByUser_69 : decode b_Reas_isByUser 69 = .ok (.invokevirtual 74, 3) := by decide +kernel
theorem d_Reas_isByUser_72 : decode b_Reas_isByUser 72 = .ok (.goto 13, 3) := by decide +kernel
theorem d_Reas_isByUser_75 : decode b_Reas_isByUser 75 = .ok (.aload_n 0, 1) := by decide +kernel
theorem d_Reas_isByUser_76 : decode b_Reas_isByUser 76 = .ok (.getfield 9, 3) := by decide +kernel
theorem d_Reas_isByUser_79 : decode b_Reas_isByUser 79 = .ok (.iload 5, 2) := by decide +kernel
theorem d_Reas_isByUser_81 : decode b_Reas_isByUser 81 = .ok (.iload_n 3, 1) := by decide +kernel
theorem d_Reas_isByUser_82 : decode b_Reas_isByUser 82 = .ok (.invokevirtual 78, 3) := by decide +kernel
theorem d_Reas_isByUser_85 : decode b_Reas_isByUser 85 = .ok (.ireturn, 1) := by decide +kernel
theorem d_Reas_isByTurn_0 : decode b_Reas_isByTurn 0 = .ok (.iload_n 2, 1) := by decide +kernel
theorem d_Reas_isByTurn_1 : decode b_Reas_isByTurn 1 = .ok (.iconst 2, 1) := by decide +kernel
theorem d_Reas_isByTurn_2 : decode b_Reas_isByTurn 2 = .ok (.idiv, 1) := by decide +kernel
theorem d_Reas_isByTurn_3 : decode b_Reas_isByTurn 3 = .ok (.istore 5, 2) := by decide +kernel
theorem d_Reas_isByTurn_5 : decode b_Reas_isByTurn 5 = .ok (.iload_n 2, 1) := by decide +kernel
theorem d_Reas_isByTurn_6 : decode b_Reas_isByTurn 6 = .ok (.iconst 2, 1) := by decide +kernel
theorem d_Reas_isByTurn_7 : decode b_Reas_isByTurn 7 = .ok (.irem, 1) := by decide +kernel
theorem d_Reas_isByTurn_8 : decode b_Reas_isByTurn 8 = .ok (.istore 6, 2) := by decide +kernel
theorem d_Reas_isByTurn_10 : decode b_Reas_isByTurn 10 = .ok (.iload 5, 2) := by decide +kernel
theorem d_Reas_isByTurn_12 : decode b_Reas_isByTurn 12 = .ok (.aload_n 0, 1) := by decide +kernel
theorem d_Reas_isByTurn_13 : decode b_Reas_isByTurn 13 = .ok (.getfield 9, 3) := by decide +kernel
theorem d_Reas_isByTurn_16 : decode b_Reas_isByTurn 16 = .ok (.getfield 81, 3) := by decide +kernel
theorem d_Reas_isByTurn_19 : decode b_Reas_isByTurn 19 = .ok (.if_icmp .ge 45, 3) := by decide +kernel
theorem d_Reas_isByTurn_22 : decode b_Reas_isByTurn 22 = .ok (.aload_n 0, 1) := by decide +kernel
theorem d_Reas_isByTurn_23 : decode b_Reas_isByTurn 23 = .ok (.getfield 9, 3) := by decide +kernel
theorem d_Reas_isByTurn_26 : decode b_Reas_isByTurn 26 = .ok (.getfield 84, 3) := by decide +kernel
theorem d_Reas_isByTurn_29 : decode b_Reas_isByTurn 29 = .ok (.getfield 88, 3) := by decide +kernel
theorem d_Reas_isByTurn_32 : decode b_Reas_isByTurn 32 = .ok (.iload 5, 2) := by decide +kernel
theorem d_Reas_isByTurn_34 : decode b_Reas_isByTurn 34 = .ok (.iaload, 1) := by decide +kernel
theorem d_Reas_isByTurn_35 : decode b_Reas_isByTurn 35 = .ok (.iload_n 3, 1) := by decide +kernel
theorem d_Reas_isByTurn_36 : decode b_Reas_isByTurn 36 = .ok (.if_icmp .ne 28, 3) := by decide +kernel
theorem d_Reas_isByTurn_39 : decode b_Reas_isByTurn 39 = .ok (.aload_n 0, 1) := by decide +kernel
theorem d_Reas_isByTurn_40 : decode b_Reas_isByTurn 40 = .ok (.getfield 15, 3) := by decide +kernel
theorem d_Reas_isByTurn_43 : decode b_Reas_isByTurn 43 = .ok (.aload_n 0, 1) := by decide +kernel
theorem d_Reas_isByTurn_44 : decode b_Reas_isByTurn 44 = .ok (.getfield 9, 3) := by decide +kernel
theorem d_Reas_isByTurn_47 : decode b_Reas_isByTurn 47 = .ok (.getfield 84, 3) := by decide +kernel
theorem d_Reas_isByTurn_50 : decode b_Reas_isByTurn 50 = .ok (.getfield 93, 3) := by decide +kernel
theorem d_Reas_isByTurn_53 : decode b_Reas_isByTurn 53 = .ok (.iload 5, 2) := by decide +kernel
theorem d_Reas_isByTurn_55 : decode b_Reas_isByTurn 55 = .ok (.iaload, 1) := by decide +kernel
theorem d_Reas_isByTurn_56 : decode b_Reas_isByTurn 56 = .ok (.iload 6, 2) := by decide +kernel
theorem d_Reas_isByTurn_58 : decode b_Reas_isByTurn 58 = .ok (.invokevirtual 96, 3) := by decide +kernel
theorem d_Reas_isByTurn_61 : decode b_Reas_isByTurn 61 = .ok (.ifCond .ne 5, 3) := by decide +kernel
theorem d_Reas_isByTurn_64 : decode b_Reas_isByTurn 64 = .ok (.iconst 0, 1) := by decide +kernel
theorem d_Reas_isByTurn_65 : decode b_Reas_isByTurn 65 = .ok (.ireturn, 1) := by decide +kernel
theorem d_Reas_isByTurn_66 : decode b_Reas_isByTurn 66 = .ok (.aload_n 0, 1) := by decide +kernel
theorem d_Reas_isByTurn_67 : decode b_Reas_isByTurn 67 = .ok (.getfield 9, 3) := by decide +kernel
theorem d_Reas_isByTurn_70 : decode b_Reas_isByTurn 70 = .ok (.getfield 84, 3) := by decide +kernel
theorem d_Reas_isByTurn_73 : decode b_Reas_isByTurn 73 = .ok (.getfield 99, 3) := by decide +kernel
theorem d_Reas_isByTurn_76 : decode b_Reas_isByTurn 76 = .ok (.iload 5, 2) := by decide +kernel
theorem d_Reas_isByTurn_78 : decode b_Reas_isByTurn 78 = .ok (.iaload, 1) := by decide +kernel
theorem d_Reas_isByTurn_79 : decode b_Reas_isByTurn 79 = .ok (.istore 7, 2) := by decide +kernel
theorem d_Reas_isByTurn_81 : decode b_Reas_isByTurn 81 = .ok (.iload_n 1, 1) := by decide +kernel
theorem d_Reas_isByTurn_82 : decode b_Reas_isByTurn 82 = .ok (.iconst 3, 1) := by decide +kernel
theorem d_Reas_isByTurn_83 : decode b_Reas_isByTurn 83 = .ok (.if_icmp .ne 21, 3) := by decide +kernel
theorem d_Reas_isByTurn_86 : decode b_Reas_isByTurn 86 = .ok (.iload 7, 2) := by decide +kernel
theorem d_Reas_isByTurn_88 : decode b_Reas_isByTurn 88 = .ok (.ifCond .ne 14, 3) := by decide +kernel
theorem d_Reas_isByTurn_91 : decode b_Reas_isByTurn 91 = .ok (.iload 6, 2) := by decide +kernel
theorem d_Reas_isByTurn_93 : decode b_Reas_isByTurn 93 = .ok (.iload 4, 2) := by decide +kernel
theorem d_Reas_isByTurn_95 : decode b_Reas_isByTurn 95 = .ok (.if_icmp .ne 7, 3) := by decide +kernel
theorem d_Reas_isByTurn_98 : decode b_Reas_isByTurn 98 = .ok (.iconst 1, 1) := by decide +kernel
theorem d_Reas_isByTurn_99 : decode b_Reas_isByTurn 99 = .ok (.goto 4, 3) := by decide +kernel
theorem d_Reas_isByTurn_102 : decode b_Reas_isByTurn 102 = .ok (.iconst 0, 1) := by decide +kernel
theorem d_Reas_isByTurn_103 : decode b_Reas_isByTurn 103 = .ok (.ireturn, 1) := by decide +kernel
theorem d_Reas_isByTurn_104 : decode b_Reas_isByTurn 104 = .ok (.aload_n 0, 1) := by decide +kernel
theorem d_Reas_isByTurn_105 : decode b_Reas_isByTurn 105 = .ok (.getfield 9, 3) := by decide +kernel
theorem d_Reas_isByTurn_108 : decode b_Reas_isByTurn 108 = .ok (.getfield 84, 3) := by decide +kernel
theorem d_Reas_isByTurn_111 : decode b_Reas_isByTurn 111 = .ok (.getfield 102, 3) := by decide +kernel
theorem d_Reas_isByTurn_114 : decode b_Reas_isByTurn 114 = .ok (.iload 5, 2) := by decide +kernel
theorem d_Reas_isByTurn_116 : decode b_Reas_isByTurn 116 = .ok (.iaload, 1) := by decide +kernel
theorem d_Reas_isByTurn_117 : decode b_Reas_isByTurn 117 = .ok (.istore 8, 2) := by decide +kernel
theorem d_Reas_isByTurn_119 : decode b_Reas_isByTurn 119 = .ok (.iload 8, 2) := by decide +kernel
theorem d_Reas_isByTurn_121 : decode b_Reas_isByTurn 121 = .ok (.iconst (-1), 1) := by decide +kernel
theorem d_Reas_isByTurn_122 : decode b_Reas_isByTurn 122 = .ok (.if_icmp .eq 34, 3) := by decide +kernel
theorem d_Reas_isByTurn_125 : decode b_Reas_isByTurn 125 = .ok (.aload_n 0, 1) := by decide +kernel
theorem d_Reas_isByTurn_126 : decode b_Reas_isByTurn 126 = .ok (.getfield 9, 3) := by decide +kernel
theorem d_Reas_isByTurn_129 : decode b_Reas_isByTurn 129 = .ok (.iload 8, 2) := by decide +kernel
theorem d_Reas_isByTurn_131 : decode b_Reas_isByTurn 131 = .ok (.invokevirtual 105, 3) := by decide +kernel
theorem d_Reas_isByTurn_134 : decode b_Reas_isByTurn 134 = .ok (.ifCond .eq 22, 3) := by decide +kernel
theorem d_Reas_isByTurn_137 : decode b_Reas_isByTurn 137 = .ok (.aload_n 0, 1) := by decide +kernel
theorem d_Reas_isByTurn_138 : decode b_Reas_isByTurn 138 = .ok (.getfield 9, 3) := by decide +kernel
theorem d_Reas_isByTurn_141 : decode b_Reas_isByTurn 141 = .ok (.getfield 65, 3) := by decide +kernel
theorem d_Reas_isByTurn_144 : decode b_Reas_isByTurn 144 = .ok (.iload 8, 2) := by decide +kernel
theorem d_Reas_isByTurn_146 : decode b_Reas_isByTurn 146 = .ok (.iload 6, 2) := by decide +kernel
theorem d_Reas_isByTurn_148 : decode b_Reas_isByTurn 148 = .ok (.invokevirtual 69, 3) := by decide +kernel
theorem d_Reas_isByTurn_151 : decode b_Reas_isByTurn 151 = .ok (.iload 4, 2) := by decide +kernel
theorem d_Reas_isByTurn_153 : decode b_Reas_isByTurn 153 = .ok (.if_icmp .eq 5, 3) := by decide +kernel
theorem d_Reas_isByTurn_156 : decode b_Reas_isByTurn 156 = .ok (.iconst 0, 1) := by decide +kernel
theorem d_Reas_isByTurn_157 : decode b_Reas_isByTurn 157 = .ok (.ireturn, 1) := by decide +kernel
theorem d_Reas_isByTurn_158 : decode b_Reas_isByTurn 158 = .ok (.iload_n 1, 1) := by decide +kernel
theorem d_Reas_isByTurn_159 : decode b_Reas_isByTurn 159 = .ok (.iconst 4, 1) := by decide +kernel
theorem d_Reas_isByTurn_160 : decode b_Reas_isByTurn 160 = .ok (.if_icmp .ne 17, 3) := by decide +kernel
theorem d_Reas_isByTurn_163 : decode b_Reas_isByTurn 163 = .ok (.iload 7, 2) := by decide +kernel
theorem d_Reas_isByTurn_165 : decode b_Reas_isByTurn 165 = .ok (.iconst 2, 1) := by decide +kernel
theorem d_Reas_isByTurn_166 : decode b_Reas_isByTurn 166 = .ok (.if_icmp .ne 7, 3) := by decide +kernel
theorem d_Reas_isByTurn_169 : decode b_Reas_isByTurn 169 = .ok (.iconst 1, 1) := by decide +kernel
theorem d_Reas_isByTurn_170 : decode b_Reas_isByTurn 170 = .ok (.goto 32, 3) := by decide +kernel
theorem d_Reas_isByTurn_173 : decode b_Reas_isByTurn 173 = .ok (.iconst 0, 1) := by decide +kernel
theorem d_Reas_isByTurn_174 : decode b_Reas_isByTurn 174 = .ok (.goto 28, 3) := by decide +kernel
theorem d_Reas_isByTurn_177 : decode b_Reas_isByTurn 177 = .ok (.iload 7, 2) := by decide +kernel
theorem d_Reas_isByTurn_179 : decode b_Reas_isByTurn 179 = .ok (.iconst 3, 1) := by decide +kernel
theorem d_Reas_isByTurn_180 : decode b_Reas_isByTurn 180 = .ok (.if_icmp .ne 21, 3) := by decide +kernel
theorem d_Reas_isByTurn_183 : decode b_Reas_isByTurn 183 = .ok (.aload_n 0, 1) := by decide +kernel
theorem d_Reas_isByTurn_184 : decode b_Reas_isByTurn 184 = .ok (.getfield 15, 3) := by decide +kernel
theorem d_Reas_isByTurn_187 : decode b_Reas_isByTurn 187 = .ok (.iload 8, 2) := by decide +kernel
theorem d_Reas_isByTurn_189 : decode b_Reas_isByTurn 189 = .ok (.iload 6, 2) := by decide +kernel
theorem d_Reas_isByTurn_191 : decode b_Reas_isByTurn 191 = .ok (.invokevirtual 62, 3) := by decide +kernel
theorem d_Reas_isByTurn_194 : decode b_Reas_isByTurn 194 = .ok (.ifCond .eq 7, 3) := by decide +kernel
theorem d_Reas_isByTurn_197 : decode b_Reas_isByTurn 197 = .ok (.iconst 1, 1) := by decide +kernel
theorem d_Reas_isByTurn_198 : decode b_Reas_isByTurn 198 = .ok (.goto 4, 3) := by decide +kernel
theorem d_Reas_isByTurn_201 : decode b_Reas_isByTurn 201 = .ok (.iconst 0, 1) := by decide +kernel
theorem d_Reas_isByTurn_202 : decode b_Reas_isByTurn 202 = .ok (.ireturn, 1) := by decide +kernel
theorem d_Reas_isByOtherSide_0 : decode b_Reas_isByOtherSide 0 = .ok (.aload_n 0, 1) := by decide +kernel
theorem d_Reas_isByOtherSide_1 : decode b_Reas_isByOtherSide 1 = .ok (.getfield 9, 3) := by decide +kernel
theorem d_Reas_isByOtherSide_4 : decode b_Reas_isByOtherSide 4 = .ok (.getfield 36, 3) := by decide +kernel
theorem d_Reas_isByOtherSide_7 : decode b_Reas_isByOtherSide 7 = .ok (.getfield 42, 3) := by decide +kernel
theorem d_Reas_isByOtherSide_10 : decode b_Reas_isByOtherSide 10 = .ok (.iload_n 2, 1) := by decide +kernel
theorem d_Reas_isByOtherSide_11 : decode b_Reas_isByOtherSide 11 = .ok (.iaload, 1) := by decide +kernel
theorem d_Reas_isByOtherSide_12 : decode b_Reas_isByOtherSide 12 = .ok (.istore 4, 2) := by decide +kernel
theorem d_Reas_isByOtherSide_14 : decode b_Reas_isByOtherSide 14 = .ok (.iload_n 1, 1) := by decide +kernel
theorem d_Reas_isByOtherSide_15 : decode b_Reas_isByOtherSide 15 = .ok (.iconst 2, 1) := by decide +kernel
theorem d_Reas_isByOtherSide_16 : decode b_Reas_isByOtherSide 16 = .ok (.iload_n 2, 1) := by decide +kernel
theorem d_Reas_isByOtherSide_17 : decode b_Reas_isByOtherSide 17 = .ok (.imul, 1) := by decide +kernel
theorem d_Reas_isByOtherSide_18 : decode b_Reas_isByOtherSide 18 = .ok (.iconst 1, 1) := by decide +kernel
theorem d_Reas_isByOtherSide_19 : decode b_Reas_isByOtherSide 19 = .ok (.iadd, 1) := by decide +kernel
theorem d_Reas_isByOtherSide_20 : decode b_Reas_isByOtherSide 20 = .ok (.iload_n 3, 1) := by decide +kernel
theorem d_Reas_isByOtherSide_21 : decode b_Reas_isByOtherSide 21 = .ok (.isub, 1) := by decide +kernel
theorem d_Reas_isByOtherSide_22 : decode b_Reas_isByOtherSide 22 = .ok (.if_icmp .ne 50, 3) := by decide +kernel
theorem d_Reas_isByOtherSide_25 : decode b_Reas_isByOtherSide 25 = .ok (.aload_n 0, 1) := by decide +kernel
theorem d_Reas_isByOtherSide_26 : decode b_Reas_isByOtherSide 26 = .ok (.getfield 9, 3) := by decide +kernel
theorem d_Reas_isByOtherSide_29 : decode b_Reas_isByOtherSide 29 = .ok (.getfield 108, 3) := by decide +kernel
theorem d_Reas_isByOtherSide_32 : decode b_Reas_isByOtherSide 32 = .ok (.getfield 112, 3) := by decide +kernel
theorem d_Reas_isByOtherSide_35 : decode b_Reas_isByOtherSide 35 = .ok (.iload 4, 2) := by decide +kernel
theorem d_Reas_isByOtherSide_37 : decode b_Reas_isByOtherSide 37 = .ok (.baload, 1) := by decide +kernel
theorem d_Reas_isByOtherSide_38 : decode b_Reas_isByOtherSide 38 = .ok (.ifCond .ne 34, 3) := by decide +kernel
theorem d_Reas_isByOtherSide_41 : decode b_Reas_isByOtherSide 41 = .ok (.aload_n 0, 1) := by decide +kernel
theorem d_Reas_isByOtherSide_42 : decode b_Reas_isByOtherSide 42 = .ok (.getfield 15, 3) := by decide +kernel
theorem d_Reas_isByOtherSide_45 : decode b_Reas_isByOtherSide 45 = .ok (.iload_n 2, 1) := by decide +kernel
theorem d_Reas_isByOtherSide_46 : decode b_Reas_isByOtherSide 46 = .ok (.iconst 1, 1) := by decide +kernel
theorem d_Reas_isByOtherSide_47 : decode b_Reas_isByOtherSide 47 = .ok (.iload_n 3, 1) := by decide +kernel
theorem d_Reas_isByOtherSide_48 : decode b_Reas_isByOtherSide 48 = .ok (.isub, 1) := by decide +kernel
theorem d_Reas_isByOtherSide_49 : decode b_Reas_isByOtherSide 49 = .ok (.invokevirtual 96, 3) := by decide +kernel
theorem d_Reas_isByOtherSide_52 : decode b_Reas_isByOtherSide 52 = .ok (.ifCond .eq 20, 3) := by decide +kernel
theorem d_Reas_isByOtherSide_55 : decode b_Reas_isByOtherSide 55 = .ok (.aload_n 0, 1) := by decide +kernel
theorem d_Reas_isByOtherSide_56 : decode b_Reas_isByOtherSide 56 = .ok (.getfield 15, 3) := by decide +kernel
theorem d_Reas_isByOtherSide_59 : decode b_Reas_isByOtherSide 59 = .ok (.iload 4, 2) := by decide +kernel
theorem d_Reas_isByOtherSide_61 : decode b_Reas_isByOtherSide 61 = .ok (.iload_n 3, 1) := by decide +kernel
theorem d_Reas_isByOtherSide_62 : decode b_Reas_isByOtherSide 62 = .ok (.invokevirtual 52, 3) := by decide +kernel
theorem d_Reas_isByOtherSide_65 : decode b_Reas_isByOtherSide 65 = .ok (.ifCond .eq 7, 3) := by decide +kernel
theorem d_Reas_isByOtherSide_68 : decode b_Reas_isByOtherSide 68 = .ok (.iconst 1, 1) := by decide +kernel
theorem d_Reas_isByOtherSide_69 : decode b_Reas_isByOtherSide 69 = .ok (.goto 4, 3) := by decide +kernel
theorem d_Reas_isByOtherSide_72 : decode b_Reas_isByOtherSide 72 = .ok (.iconst 0, 1) := by decide +kernel
theorem d_Reas_isByOtherSide_73 : decode b_Reas_isByOtherSide 73 = .ok (.ireturn, 1) := by decide +kernel
theorem d_Reas_holds_0 : decode b_Reas_holds 0 = .ok (.iload_n 1, 1) := by decide +kernel
theorem d_Reas_holds_1 : decode b_Reas_holds 1 = .ok (.sipush 128, 3) := by decide +kernel
theorem d_Reas_holds_4 : decode b_Reas_holds 4 = .ok (.idiv, 1) := by decide +kernel
theorem d_Reas_holds_5 : decode b_Reas_holds 5 = .ok (.istore 4, 2) := by decide +kernel
theorem d_Reas_holds_7 : decode b_Reas_holds 7 = .ok (.iload_n 1, 1) := by decide +kernel
theorem d_Reas_holds_8 : decode b_Reas_holds 8 = .ok (.sipush 128, 3) := by decide +kernel
theorem d_Reas_holds_11 : decode b_Reas_holds 11 = .ok (.irem, 1) := by decide +kernel
theorem d_Reas_holds_12 : decode b_Reas_holds 12 = .ok (.istore 5, 2) := by decide +kernel
theorem d_Reas_holds_14 : decode b_Reas_holds 14 = .ok (.iload 4, 2) := by decide +kernel
theorem d_Reas_holds_16 : decode b_Reas_holds 16 = .ok (.tableswitch 84 0 6 #[44, 53, 53, 64, 64, 64, 75], 44) := by decide +kernel
theorem d_Reas_holds_60 : decode b_Reas_holds 60 = .ok (.aload_n 0, 1) := by decide +kernel
theorem d_Reas_holds_61 : decode b_Reas_holds 61 = .ok (.iload 5, 2) := by decide +kernel
theorem d_Reas_holds_63 : decode b_Reas_holds 63 = .ok (.iload_n 2, 1) := by decide +kernel
theorem d_Reas_holds_64 : decode b_Reas_holds 64 = .ok (.iload_n 3, 1) := by decide +kernel
theorem d_Reas_holds_65 : decode b_Reas_holds 65 = .ok (.invokevirtual 23, 3) := by decide +kernel
theorem d_Reas_holds_68 : decode b_Reas_holds 68 = .ok (.ireturn, 1) := by decide +kernel
theorem d_Reas_holds_69 : decode b_Reas_holds 69 = .ok (.aload_n 0, 1) := by decide +kernel
theorem d_Reas_holds_70 : decode b_Reas_holds 70 = .ok (.iload 4, 2) := by decide +kernel
theorem d_Reas_holds_72 : decode b_Reas_holds 72 = .ok (.iload 5, 2) := by decide +kernel
theorem d_Reas_holds_74 : decode b_Reas_holds 74 = .ok (.iload_n 2, 1) := by decide +kernel
theorem d_Reas_holds_75 : decode b_Reas_holds 75 = .ok (.iload_n 3, 1) := by decide +kernel
theorem d_Reas_holds_76 : decode b_Reas_holds 76 = .ok (.invokevirtual 26, 3) := by decide +kernel
theorem d_Reas_holds_79 : decode b_Reas_holds 79 = .ok (.ireturn, 1) := by decide +kernel
theorem d_Reas_holds_80 : decode b_Reas_holds 80 = .ok (.aload_n 0, 1) := by decide +kernel
theorem d_Reas_holds_81 : decode b_Reas_holds 81 = .ok (.iload 4, 2) := by decide +kernel
theorem d_Reas_holds_83 : decode b_Reas_holds 83 = .ok (.iload 5, 2) := by decide +kernel
theorem d_Reas_holds_85 : decode b_Reas_holds 85 = .ok (.iload_n 2, 1) := by decide +kernel
theorem d_Reas_holds_86 : decode b_Reas_holds 86 = .ok (.iload_n 3, 1) := by decide +kernel
theorem d_Reas_holds_87 : decode b_Reas_holds 87 = .ok (.invokevirtual 30, 3) := by decide +kernel
theorem d_Reas_holds_90 : decode b_Reas_holds 90 = .ok (.ireturn, 1) := by decide +kernel
theorem d_Reas_holds_91 : decode b_Reas_holds 91 = .ok (.aload_n 0, 1) := by decide +kernel
theorem d_Reas_holds_92 : decode b_Reas_holds 92 = .ok (.iload 5, 2) := by decide +kernel
theorem d_Reas_holds_94 : decode b_Reas_holds 94 = .ok (.iload_n 2, 1) := by decide +kernel
theorem d_Reas_holds_95 : decode b_Reas_holds 95 = .ok (.iload_n 3, 1) := by decide +kernel
theorem d_Reas_holds_96 : decode b_Reas_holds 96 = .ok (.invokevirtual 33, 3) := by decide +kernel
theorem d_Reas_holds_99 : decode b_Reas_holds 99 = .ok (.ireturn, 1) := by decide +kernel
theorem d_Reas_holds_100 : decode b_Reas_holds 100 = .ok (.iconst 0, 1) := by decide +kernel
theorem d_Reas_holds_101 : decode b_Reas_holds 101 = .ok (.ireturn, 1) := by decide +kernel
theorem d_Reas_countOf_0 : decode b_Reas_countOf 0 = .ok (.iconst 0, 1) := by decide +kernel
theorem d_Reas_countOf_1 : decode b_Reas_countOf 1 = .ok (.istore_n 3, 1) := by decide +kernel
theorem d_Reas_countOf_2 : decode b_Reas_countOf 2 = .ok (.iconst 0, 1) := by decide +kernel
theorem d_Reas_countOf_3 : decode b_Reas_countOf 3 = .ok (.istore 4, 2) := by decide +kernel
theorem d_Reas_countOf_5 : decode b_Reas_countOf 5 = .ok (.iload 4, 2) := by decide +kernel
theorem d_Reas_countOf_7 : decode b_Reas_countOf 7 = .ok (.sipush 896, 3) := by decide +kernel
theorem d_Reas_countOf_10 : decode b_Reas_countOf 10 = .ok (.if_icmp .ge 23, 3) := by decide +kernel
theorem d_Reas_countOf_13 : decode b_Reas_countOf 13 = .ok (.aload_n 0, 1) := by decide +kernel
theorem d_Reas_countOf_14 : decode b_Reas_countOf 14 = .ok (.iload 4, 2) := by decide +kernel
theorem d_Reas_countOf_16 : decode b_Reas_countOf 16 = .ok (.iload_n 1, 1) := by decide +kernel
theorem d_Reas_countOf_17 : decode b_Reas_countOf 17 = .ok (.iload_n 2, 1) := by decide +kernel
theorem d_Reas_countOf_18 : decode b_Reas_countOf 18 = .ok (.invokevirtual 19, 3) := by decide +kernel
theorem d_Reas_countOf_21 : decode b_Reas_countOf 21 = .ok (.ifCond .eq 6, 3) := by decide +kernel
theorem d_Reas_countOf_24 : decode b_Reas_countOf 24 = .ok (.iinc 3 1, 3) := by decide +kernel
theorem d_Reas_countOf_27 : decode b_Reas_countOf 27 = .ok (.iinc 4 1, 3) := by decide +kernel
theorem d_Reas_countOf_30 : decode b_Reas_countOf 30 = .ok (.goto (-25), 3) := by decide +kernel
theorem d_Reas_countOf_33 : decode b_Reas_countOf 33 = .ok (.iload_n 3, 1) := by decide +kernel
theorem d_Reas_countOf_34 : decode b_Reas_countOf 34 = .ok (.ireturn, 1) := by decide +kernel
theorem d_FU_reasons_0 : decode b_FU_reasons 0 = .ok (.aload_n 0, 1) := by decide +kernel
theorem d_FU_reasons_1 : decode b_FU_reasons 1 = .ok (.iload_n 1, 1) := by decide +kernel
theorem d_FU_reasons_2 : decode b_FU_reasons 2 = .ok (.iload_n 2, 1) := by decide +kernel
theorem d_FU_reasons_3 : decode b_FU_reasons 3 = .ok (.invokevirtual 162, 3) := by decide +kernel
theorem d_FU_reasons_6 : decode b_FU_reasons 6 = .ok (.ifCond .ne 7, 3) := by decide +kernel
theorem d_FU_reasons_9 : decode b_FU_reasons 9 = .ok (.iconst 0, 1) := by decide +kernel
theorem d_FU_reasons_10 : decode b_FU_reasons 10 = .ok (.goto 12, 3) := by decide +kernel
theorem d_FU_reasons_13 : decode b_FU_reasons 13 = .ok (.aload_n 0, 1) := by decide +kernel
theorem d_FU_reasons_14 : decode b_FU_reasons 14 = .ok (.getfield 63, 3) := by decide +kernel
theorem d_FU_reasons_17 : decode b_FU_reasons 17 = .ok (.iload_n 1, 1) := by decide +kernel
theorem d_FU_reasons_18 : decode b_FU_reasons 18 = .ok (.iload_n 2, 1) := by decide +kernel
theorem d_FU_reasons_19 : decode b_FU_reasons 19 = .ok (.invokevirtual 165, 3) := by decide +kernel
theorem d_FU_reasons_22 : decode b_FU_reasons 22 = .ok (.ireturn, 1) := by decide +kernel
theorem d_Reas_find_0 : decode b_Reas_find 0 = .ok (.iload_n 3, 1) := by decide +kernel
theorem d_Reas_find_1 : decode b_Reas_find 1 = .ok (.istore 4, 2) := by decide +kernel
theorem d_Reas_find_3 : decode b_Reas_find 3 = .ok (.iconst 0, 1) := by decide +kernel
theorem d_Reas_find_4 : decode b_Reas_find 4 = .ok (.istore 5, 2) := by decide +kernel
theorem d_Reas_find_6 : decode b_Reas_find 6 = .ok (.iload 5, 2) := by decide +kernel
theorem d_Reas_find_8 : decode b_Reas_find 8 = .ok (.sipush 896, 3) := by decide +kernel
theorem d_Reas_find_11 : decode b_Reas_find 11 = .ok (.if_icmp .ge 36, 3) := by decide +kernel
theorem d_Reas_find_14 : decode b_Reas_find 14 = .ok (.iload 4, 2) := by decide +kernel
theorem d_Reas_find_16 : decode b_Reas_find 16 = .ok (.ifCond .lt 31, 3) := by decide +kernel
theorem d_Reas_find_19 : decode b_Reas_find 19 = .ok (.aload_n 0, 1) := by decide +kernel
theorem d_Reas_find_20 : decode b_Reas_find 20 = .ok (.iload 5, 2) := by decide +kernel
theorem d_Reas_find_22 : decode b_Reas_find 22 = .ok (.iload_n 1, 1) := by decide +kernel
theorem d_Reas_find_23 : decode b_Reas_find 23 = .ok (.iload_n 2, 1) := by decide +kernel
theorem d_Reas_find_24 : decode b_Reas_find 24 = .ok (.invokevirtual 19, 3) := by decide +kernel
theorem d_Reas_find_27 : decode b_Reas_find 27 = .ok (.ifCond .eq 14, 3) := by decide +kernel
theorem d_Reas_find_30 : decode b_Reas_find 30 = .ok (.iload 4, 2) := by decide +kernel
theorem d_Reas_find_32 : decode b_Reas_find 32 = .ok (.ifCond .ne 6, 3) := by decide +kernel
theorem d_Reas_find_35 : decode b_Reas_find 35 = .ok (.iload 5, 2) := by decide +kernel
theorem d_Reas_find_37 : decode b_Reas_find 37 = .ok (.ireturn, 1) := by decide +kernel
theorem d_Reas_find_38 : decode b_Reas_find 38 = .ok (.iinc 4 (-1), 3) := by decide +kernel
theorem d_Reas_find_41 : decode b_Reas_find 41 = .ok (.iinc 5 1, 3) := by decide +kernel
theorem d_Reas_find_44 : decode b_Reas_find 44 = .ok (.goto (-38), 3) := by decide +kernel
theorem d_Reas_find_47 : decode b_Reas_find 47 = .ok (.iconst (-1), 1) := by decide +kernel
theorem d_Reas_find_48 : decode b_Reas_find 48 = .ok (.ireturn, 1) := by decide +kernel
theorem d_FU_reason_0 : decode b_FU_reason 0 = .ok (.iload 4, 2) := by decide +kernel
theorem d_FU_reason_2 : decode b_FU_reason 2 = .ok (.iconst 2, 1) := by decide +kernel
theorem d_FU_reason_3 : decode b_FU_reason 3 = .ok (.invokestatic 90, 3) := by decide +kernel
theorem d_FU_reason_6 : decode b_FU_reason 6 = .ok (.ifCond .eq 12, 3) := by decide +kernel
theorem d_FU_reason_9 : decode b_FU_reason 9 = .ok (.aload_n 0, 1) := by decide +kernel
theorem d_FU_reason_10 : decode b_FU_reason 10 = .ok (.iload_n 1, 1) := by decide +kernel
theorem d_FU_reason_11 : decode b_FU_reason 11 = .ok (.iload_n 2, 1) := by decide +kernel
theorem d_FU_reason_12 : decode b_FU_reason 12 = .ok (.invokevirtual 162, 3) := by decide +kernel
theorem d_FU_reason_15 : decode b_FU_reason 15 = .ok (.ifCond .ne 5, 3) := by decide +kernel
theorem d_FU_reason_18 : decode b_FU_reason 18 = .ok (.iconst (-1), 1) := by decide +kernel
theorem d_FU_reason_19 : decode b_FU_reason 19 = .ok (.ireturn, 1) := by decide +kernel
theorem d_FU_reason_20 : decode b_FU_reason 20 = .ok (.aload_n 0, 1) := by decide +kernel
theorem d_FU_reason_21 : decode b_FU_reason 21 = .ok (.getfield 63, 3) := by decide +kernel
theorem d_FU_reason_24 : decode b_FU_reason 24 = .ok (.iload_n 1, 1) := by decide +kernel
theorem d_FU_reason_25 : decode b_FU_reason 25 = .ok (.iload_n 2, 1) := by decide +kernel
theorem d_FU_reason_26 : decode b_FU_reason 26 = .ok (.iload_n 3, 1) := by decide +kernel
theorem d_FU_reason_27 : decode b_FU_reason 27 = .ok (.invokevirtual 167, 3) := by decide +kernel
theorem d_FU_reason_30 : decode b_FU_reason 30 = .ok (.istore 5, 2) := by decide +kernel
theorem d_FU_reason_32 : decode b_FU_reason 32 = .ok (.iload 5, 2) := by decide +kernel
theorem d_FU_reason_34 : decode b_FU_reason 34 = .ok (.iconst (-1), 1) := by decide +kernel
theorem d_FU_reason_35 : decode b_FU_reason 35 = .ok (.if_icmp .ne 5, 3) := by decide +kernel
theorem d_FU_reason_38 : decode b_FU_reason 38 = .ok (.iconst (-1), 1) := by decide +kernel
theorem d_FU_reason_39 : decode b_FU_reason 39 = .ok (.ireturn, 1) := by decide +kernel
theorem d_FU_reason_40 : decode b_FU_reason 40 = .ok (.iload 4, 2) := by decide +kernel
theorem d_FU_reason_42 : decode b_FU_reason 42 = .ok (.ifCond .ne 12, 3) := by decide +kernel
theorem d_FU_reason_45 : decode b_FU_reason 45 = .ok (.iload 5, 2) := by decide +kernel
theorem d_FU_reason_47 : decode b_FU_reason 47 = .ok (.sipush 128, 3) := by decide +kernel
theorem d_FU_reason_50 : decode b_FU_reason 50 = .ok (.idiv, 1) := by decide +kernel
theorem d_FU_reason_51 : decode b_FU_reason 51 = .ok (.goto 9, 3) := by decide +kernel
theorem d_FU_reason_54 : decode b_FU_reason 54 = .ok (.iload 5, 2) := by decide +kernel
theorem d_FU_reason_56 : decode b_FU_reason 56 = .ok (.sipush 128, 3) := by decide +kernel
theorem d_FU_reason_59 : decode b_FU_reason 59 = .ok (.irem, 1) := by decide +kernel
theorem d_FU_reason_60 : decode b_FU_reason 60 = .ok (.ireturn, 1) := by decide +kernel
theorem d_Feats_exclude_0 : decode b_Feats_exclude 0 = .ok (.aload_n 0, 1) := by decide +kernel
theorem d_Feats_exclude_1 : decode b_Feats_exclude 1 = .ok (.getfield 22, 3) := by decide +kernel
theorem d_Feats_exclude_4 : decode b_Feats_exclude 4 = .ok (.iload_n 1, 1) := by decide +kernel
theorem d_Feats_exclude_5 : decode b_Feats_exclude 5 = .ok (.iaload, 1) := by decide +kernel
theorem d_Feats_exclude_6 : decode b_Feats_exclude 6 = .ok (.ifCond .eq 37, 3) := by decide +kernel
theorem d_Feats_exclude_9 : decode b_Feats_exclude 9 = .ok (.aload_n 0, 1) := by decide +kernel
theorem d_Feats_exclude_10 : decode b_Feats_exclude 10 = .ok (.getfield 22, 3) := by decide +kernel
theorem d_Feats_exclude_13 : decode b_Feats_exclude 13 = .ok (.iload_n 1, 1) := by decide +kernel
theorem d_Feats_exclude_14 : decode b_Feats_exclude 14 = .ok (.iaload, 1) := by decide +kernel
theorem d_Feats_exclude_15 : decode b_Feats_exclude 15 = .ok (.aload_n 0, 1) := by decide +kernel
theorem d_Feats_exclude_16 : decode b_Feats_exclude 16 = .ok (.getfield 22, 3) := by decide +kernel
theorem d_Feats_exclude_19 : decode b_Feats_exclude 19 = .ok (.iload_n 2, 1) := by decide +kernel
theorem d_Feats_exclude_20 : decode b_Feats_exclude 20 = .ok (.iaload, 1) := by decide +kernel
theorem d_Feats_exclude_21 : decode b_Feats_exclude 21 = .ok (.if_icmp .ne 22, 3) := by decide +kernel
theorem d_Feats_exclude_24 : decode b_Feats_exclude 24 = .ok (.aload_n 0, 1) := by decide +kernel
theorem d_Feats_exclude_25 : decode b_Feats_exclude 25 = .ok (.getfield 15, 3) := by decide +kernel
theorem d_Feats_exclude_28 : decode b_Feats_exclude 28 = .ok (.iload_n 1, 1) := by decide +kernel
theorem d_Feats_exclude_29 : decode b_Feats_exclude 29 = .ok (.iaload, 1) := by decide +kernel
theorem d_Feats_exclude_30 : decode b_Feats_exclude 30 = .ok (.aload_n 0, 1) := by decide +kernel
theorem d_Feats_exclude_31 : decode b_Feats_exclude 31 = .ok (.getfield 15, 3) := by decide +kernel
theorem d_Feats_exclude_34 : decode b_Feats_exclude 34 = .ok (.iload_n 2, 1) := by decide +kernel
theorem d_Feats_exclude_35 : decode b_Feats_exclude 35 = .ok (.iaload, 1) := by decide +kernel
theorem d_Feats_exclude_36 : decode b_Feats_exclude 36 = .ok (.if_icmp .ne 7, 3) := by decide +kernel
theorem d_Feats_exclude_39 : decode b_Feats_exclude 39 = .ok (.iconst 1, 1) := by decide +kernel
theorem d_Feats_exclude_40 : decode b_Feats_exclude 40 = .ok (.goto 4, 3) := by decide +kernel
theorem d_Feats_exclude_43 : decode b_Feats_exclude 43 = .ok (.iconst 0, 1) := by decide +kernel
theorem d_Feats_exclude_44 : decode b_Feats_exclude 44 = .ok (.ireturn, 1) := by decide +kernel
