theorem d_Packs_init_0 : decode b_Packs_init 0 = .ok (.aload_n 0, 1) := by decide +kernel
theorem d_Packs_init_1 : decode b_Packs_init 1 = .ok (.invokespecial 3, 3) := by decide +kernel
theorem d_Packs_init_4 : decode b_Packs_init 4 = .ok (.aload_n 0, 1) := by decide +kernel
theorem d_Packs_init_5 : decode b_Packs_init 5 = .ok (.iconst 0, 1) := by decide +kernel
theorem d_Packs_init_6 : decode b_Packs_init 6 = .ok (.putfield 9, 3) := by decide +kernel
theorem d_Packs_init_9 : decode b_Packs_init 9 = .ok (.aload_n 0, 1) := by decide +kernel
theorem d_Packs_init_10 : decode b_Packs_init 10 = .ok (.iconst 0, 1) := by decide +kernel
theorem d_Packs_init_11 : decode b_Packs_init 11 = .ok (.putfield 15, 3) := by decide +kernel
theorem d_Packs_init_14 : decode b_Packs_init 14 = .ok (.aload_n 0, 1) := by decide +kernel
theorem d_Packs_init_15 : decode b_Packs_init 15 = .ok (.iconst 0, 1) := by decide +kernel
theorem d_Packs_init_16 : decode b_Packs_init 16 = .ok (.putfield 18, 3) := by decide +kernel
theorem d_Packs_init_19 : decode b_Packs_init 19 = .ok (.aload_n 0, 1) := by decide +kernel
theorem d_Packs_init_20 : decode b_Packs_init 20 = .ok (.bipush 10, 2) := by decide +kernel
theorem d_Packs_init_22 : decode b_Packs_init 22 = .ok (.newarray .boolean, 2) := by decide +kernel
theorem d_Packs_init_24 : decode b_Packs_init 24 = .ok (.putfield 21, 3) := by decide +kernel
theorem d_Packs_init_27 : decode b_Packs_init 27 = .ok (.return_, 1) := by decide +kernel
theorem d_Feats_init_0 : decode b_Feats_init 0 = .ok (.aload_n 0, 1) := by decide +kernel
theorem d_Feats_init_1 : decode b_Feats_init 1 = .ok (.invokespecial 3, 3) := by decide +kernel
theorem d_Feats_init_4 : decode b_Feats_init 4 = .ok (.aload_n 0, 1) := by decide +kernel
theorem d_Feats_init_5 : decode b_Feats_init 5 = .ok (.iconst 0, 1) := by decide +kernel
theorem d_Feats_init_6 : decode b_Feats_init 6 = .ok (.putfield 9, 3) := by decide +kernel
theorem d_Feats_init_9 : decode b_Feats_init 9 = .ok (.aload_n 0, 1) := by decide +kernel
theorem d_Feats_init_10 : decode b_Feats_init 10 = .ok (.bipush 60, 2) := by decide +kernel
theorem d_Feats_init_12 : decode b_Feats_init 12 = .ok (.newarray .int, 2) := by decide +kernel
theorem d_Feats_init_14 : decode b_Feats_init 14 = .ok (.putfield 15, 3) := by decide +kernel
theorem d_Feats_init_17 : decode b_Feats_init 17 = .ok (.aload_n 0, 1) := by decide +kernel
theorem d_Feats_init_18 : decode b_Feats_init 18 = .ok (.bipush 60, 2) := by decide +kernel
theorem d_Feats_init_20 : decode b_Feats_init 20 = .ok (.newarray .int, 2) := by decide +kernel
theorem d_Feats_init_22 : decode b_Feats_init 22 = .ok (.putfield 19, 3) := by decide +kernel
theorem d_Feats_init_25 : decode b_Feats_init 25 = .ok (.aload_n 0, 1) := by decide +kernel
theorem d_Feats_init_26 : decode b_Feats_init 26 = .ok (.bipush 60, 2) := by decide +kernel
theorem d_Feats_init_28 : decode b_Feats_init 28 = .ok (.newarray .int, 2) := by decide +kernel
theorem d_Feats_init_30 : decode b_Feats_init 30 = .ok (.putfield 22, 3) := by decide +kernel
theorem d_Feats_init_33 : decode b_Feats_init 33 = .ok (.aload_n 0, 1) := by decide +kernel
theorem d_Feats_init_34 : decode b_Feats_init 34 = .ok (.bipush 60, 2) := by decide +kernel
theorem d_Feats_init_36 : decode b_Feats_init 36 = .ok (.newarray .boolean, 2) := by decide +kernel
theorem d_Feats_init_38 : decode b_Feats_init 38 = .ok (.putfield 25, 3) := by decide +kernel
theorem d_Feats_init_41 : decode b_Feats_init 41 = .ok (.return_, 1) := by decide +kernel
theorem d_Users_init_0 : decode b_Users_init 0 = .ok (.aload_n 0, 1) := by decide +kernel
theorem d_Users_init_1 : decode b_Users_init 1 = .ok (.invokespecial 3, 3) := by decide +kernel
theorem d_Users_init_4 : decode b_Users_init 4 = .ok (.aload_n 0, 1) := by decide +kernel
theorem d_Users_init_5 : decode b_Users_init 5 = .ok (.iconst 0, 1) := by decide +kernel
theorem d_Users_init_6 : decode b_Users_init 6 = .ok (.putfield 9, 3) := by decide +kernel
theorem d_Users_init_9 : decode b_Users_init 9 = .ok (.aload_n 0, 1) := by decide +kernel
theorem d_Users_init_10 : decode b_Users_init 10 = .ok (.bipush 40, 2) := by decide +kernel
theorem d_Users_init_12 : decode b_Users_init 12 = .ok (.newarray .int, 2) := by decide +kernel
theorem d_Users_init_14 : decode b_Users_init 14 = .ok (.putfield 15, 3) := by decide +kernel
theorem d_Users_init_17 : decode b_Users_init 17 = .ok (.aload_n 0, 1) := by decide +kernel
theorem d_Users_init_18 : decode b_Users_init 18 = .ok (.bipush 40, 2) := by decide +kernel
theorem d_Users_init_20 : decode b_Users_init 20 = .ok (.newarray .int, 2) := by decide +kernel
theorem d_Users_init_22 : decode b_Users_init 22 = .ok (.putfield 19, 3) := by decide +kernel
theorem d_Users_init_25 : decode b_Users_init 25 = .ok (.aload_n 0, 1) := by decide +kernel
theorem d_Users_init_26 : decode b_Users_init 26 = .ok (.bipush 40, 2) := by decide +kernel
theorem d_Users_init_28 : decode b_Users_init 28 = .ok (.newarray .int, 2) := by decide +kernel
theorem d_Users_init_30 : decode b_Users_init 30 = .ok (.putfield 22, 3) := by decide +kernel
theorem d_Users_init_33 : decode b_Users_init 33 = .ok (.aload_n 0, 1) := by decide +kernel
theorem d_Users_init_34 : decode b_Users_init 34 = .ok (.bipush 40, 2) := by decide +kernel
theorem d_Users_init_36 : decode b_Users_init 36 = .ok (.newarray .int, 2) := by decide +kernel
theorem d_Users_init_38 : decode b_Users_init 38 = .ok (.putfield 25, 3) := by decide +kernel
theorem d_Users_init_41 : decode b_Users_init 41 = .ok (.aload_n 0, 1) := by decide +kernel
theorem d_Users_init_42 : decode b_Users_init 42 = .ok (.bipush 40, 2) := by decide +kernel
theorem d_Users_init_44 : decode b_Users_init 44 = .ok (.newarray .boolean, 2) := by decide +kernel
theorem d_Users_init_46 : decode b_Users_init 46 = .ok (.putfield 28, 3) := by decide +kernel
theorem d_Users_init_49 : decode b_Users_init 49 = .ok (.aload_n 0, 1) := by decide +kernel
theorem d_Users_init_50 : decode b_Users_init 50 = .ok (.bipush 40, 2) := by decide +kernel
theorem d_Users_init_52 : decode b_Users_init 52 = .ok (.newarray .boolean, 2) := by decide +kernel
theorem d_Users_init_54 : decode b_Users_init 54 = .ok (.putfield 32, 3) := by decide +kernel
theorem d_Users_init_57 : decode b_Users_init 57 = .ok (.aload_n 0, 1) := by decide +kernel
theorem d_Users_init_58 : decode b_Users_init 58 = .ok (.bipush 40, 2) := by decide +kernel
theorem d_Users_init_60 : decode b_Users_init 60 = .ok (.newarray .boolean, 2) := by decide +kernel
theorem d_Users_init_62 : decode b_Users_init 62 = .ok (.putfield 35, 3) := by decide +kernel
theorem d_Users_init_65 : decode b_Users_init 65 = .ok (.return_, 1) := by decide +kernel
theorem d_Turns_init_0 : decode b_Turns_init 0 = .ok (.aload_n 0, 1) := by decide +kernel
theorem d_Turns_init_1 : decode b_Turns_init 1 = .ok (.invokespecial 3, 3) := by decide +kernel
theorem d_Turns_init_4 : decode b_Turns_init 4 = .ok (.aload_n 0, 1) := by decide +kernel
theorem d_Turns_init_5 : decode b_Turns_init 5 = .ok (.iconst 0, 1) := by decide +kernel
theorem d_Turns_init_6 : decode b_Turns_init 6 = .ok (.putfield 9, 3) := by decide +kernel
theorem d_Turns_init_9 : decode b_Turns_init 9 = .ok (.aload_n 0, 1) := by decide +kernel
theorem d_Turns_init_10 : decode b_Turns_init 10 = .ok (.bipush 60, 2) := by decide +kernel
theorem d_Turns_init_12 : decode b_Turns_init 12 = .ok (.newarray .int, 2) := by decide +kernel
theorem d_Turns_init_14 : decode b_Turns_init 14 = .ok (.putfield 15, 3) := by decide +kernel
theorem d_Turns_init_17 : decode b_Turns_init 17 = .ok (.aload_n 0, 1) := by decide +kernel
theorem d_Turns_init_18 : decode b_Turns_init 18 = .ok (.bipush 60, 2) := by decide +kernel
theorem d_Turns_init_20 : decode b_Turns_init 20 = .ok (.newarray .int, 2) := by decide +kernel
theorem d_Turns_init_22 : decode b_Turns_init 22 = .ok (.putfield 19, 3) := by decide +kernel
theorem d_Turns_init_25 : decode b_Turns_init 25 = .ok (.aload_n 0, 1) := by decide +kernel
theorem d_Turns_init_26 : decode b_Turns_init 26 = .ok (.bipush 60, 2) := by decide +kernel
theorem d_Turns_init_28 : decode b_Turns_init 28 = .ok (.newarray .int, 2) := by decide +kernel
theorem d_Turns_init_30 : decode b_Turns_init 30 = .ok (.putfield 22, 3) := by decide +kernel
theorem d_Turns_init_33 : decode b_Turns_init 33 = .ok (.aload_n 0, 1) := by decide +kernel
theorem d_Turns_init_34 : decode b_Turns_init 34 = .ok (.bipush 60, 2) := by decide +kernel
theorem d_Turns_init_36 : decode b_Turns_init 36 = .ok (.newarray .int, 2) := by decide +kernel
theorem d_Turns_init_38 : decode b_Turns_init 38 = .ok (.putfield 25, 3) := by decide +kernel
theorem d_Turns_init_41 : decode b_Turns_init 41 = .ok (.return_, 1) := by decide +kernel
theorem d_Snap_init_0 : decode b_Snap_init 0 = .ok (.aload_n 0, 1) := by decide +kernel
theorem d_Snap_init_1 : decode b_Snap_init 1 = .ok (.invokespecial 3, 3) := by decide +kernel
theorem d_Snap_init_4 : decode b_Snap_init 4 = .ok (.aload_n 0, 1) := by decide +kernel
theorem d_Snap_init_5 : decode b_Snap_init 5 = .ok (.iconst 0, 1) := by decide +kernel
theorem d_Snap_init_6 : decode b_Snap_init 6 = .ok (.putfield 9, 3) := by decide +kernel
theorem d_Snap_init_9 : decode b_Snap_init 9 = .ok (.aload_n 0, 1) := by decide +kernel
theorem d_Snap_init_10 : decode b_Snap_init 10 = .ok (.iconst 0, 1) := by decide +kernel
theorem d_Snap_init_11 : decode b_Snap_init 11 = .ok (.putfield 15, 3) := by decide +kernel
theorem d_Snap_init_14 : decode b_Snap_init 14 = .ok (.aload_n 0, 1) := by decide +kernel
theorem d_Snap_init_15 : decode b_Snap_init 15 = .ok (.iconst 0, 1) := by decide +kernel
theorem d_Snap_init_16 : decode b_Snap_init 16 = .ok (.putfield 18, 3) := by decide +kernel
theorem d_Snap_init_19 : decode b_Snap_init 19 = .ok (.aload_n 0, 1) := by decide +kernel
theorem d_Snap_init_20 : decode b_Snap_init 20 = .ok (.iconst 0, 1) := by decide +kernel
theorem d_Snap_init_21 : decode b_Snap_init 21 = .ok (.putfield 21, 3) := by decide +kernel
theorem d_Snap_init_24 : decode b_Snap_init 24 = .ok (.aload_n 0, 1) := by decide +kernel
theorem d_Snap_init_25 : decode b_Snap_init 25 = .ok (.iconst 0, 1) := by decide +kernel
theorem d_Snap_init_26 : decode b_Snap_init 26 = .ok (.putfield 24, 3) := by decide +kernel
theorem d_Snap_init_29 : decode b_Snap_init 29 = .ok (.aload_n 0, 1) := by decide +kernel
theorem d_Snap_init_30 : decode b_Snap_init 30 = .ok (.iconst 0, 1) := by decide +kernel
theorem d_Snap_init_31 : decode b_Snap_init 31 = .ok (.putfield 27, 3) := by decide +kernel
theorem d_Snap_init_34 : decode b_Snap_init 34 = .ok (.aload_n 0, 1) := by decide +kernel
theorem d_Snap_init_35 : decode b_Snap_init 35 = .ok (.iconst 0, 1) := by decide +kernel
theorem d_Snap_init_36 : decode b_Snap_init 36 = .ok (.putfield 30, 3) := by decide +kernel
theorem d_Snap_init_39 : decode b_Snap_init 39 = .ok (.aload_n 0, 1) := by decide +kernel
theorem d_Snap_init_40 : decode b_Snap_init 40 = .ok (.bipush 40, 2) := by decide +kernel
theorem d_Snap_init_42 : decode b_Snap_init 42 = .ok (.newarray .int, 2) := by decide +kernel
theorem d_Snap_init_44 : decode b_Snap_init 44 = .ok (.putfield 33, 3) := by decide +kernel
theorem d_Snap_init_47 : decode b_Snap_init 47 = .ok (.aload_n 0, 1) := by decide +kernel
theorem d_Snap_init_48 : decode b_Snap_init 48 = .ok (.aload_n 1, 1) := by decide +kernel
theorem d_Snap_init_49 : decode b_Snap_init 49 = .ok (.putfield 37, 3) := by decide +kernel
theorem d_Snap_init_52 : decode b_Snap_init 52 = .ok (.aload_n 0, 1) := by decide +kernel
theorem d_Snap_init_53 : decode b_Snap_init 53 = .ok (.aload_n 2, 1) := by decide +kernel
theorem d_Snap_init_54 : decode b_Snap_init 54 = .ok (.putfield 41, 3) := by decide +kernel
theorem d_Snap_init_57 : decode b_Snap_init 57 = .ok (.aload_n 0, 1) := by decide +kernel
theorem d_Snap_init_58 : decode b_Snap_init 58 = .ok (.aload_n 3, 1) := by decide +kernel
theorem d_Snap_init_59 : decode b_Snap_init 59 = .ok (.putfield 45, 3) := by decide +kernel
theorem d_Snap_init_62 : decode b_Snap_init 62 = .ok (.aload_n 0, 1) := by decide +kernel
theorem d_Snap_init_63 : decode b_Snap_init 63 = .ok (.aload 4, 2) := by decide +kernel
theorem d_Snap_init_65 : decode b_Snap_init 65 = .ok (.putfield 49, 3) := by decide +kernel
theorem d_Snap_init_68 : decode b_Snap_init 68 = .ok (.return_, 1) := by decide +kernel
theorem d_Clo_init_0 : decode b_Clo_init 0 = .ok (.aload_n 0, 1) := by decide +kernel
theorem d_Clo_init_1 : decode b_Clo_init 1 = .ok (.invokespecial 3, 3) := by decide +kernel
theorem d_Clo_init_4 : decode b_Clo_init 4 = .ok (.aload_n 0, 1) := by decide +kernel
theorem d_Clo_init_5 : decode b_Clo_init 5 = .ok (.sipush 220, 3) := by decide +kernel
theorem d_Clo_init_8 : decode b_Clo_init 8 = .ok (.newarray .int, 2) := by decide +kernel
theorem d_Clo_init_10 : decode b_Clo_init 10 = .ok (.putfield 9, 3) := by decide +kernel
theorem d_Clo_init_13 : decode b_Clo_init 13 = .ok (.aload_n 0, 1) := by decide +kernel
theorem d_Clo_init_14 : decode b_Clo_init 14 = .ok (.sipush 220, 3) := by decide +kernel
theorem d_Clo_init_17 : decode b_Clo_init 17 = .ok (.newarray .int, 2) := by decide +kernel
theorem d_Clo_init_19 : decode b_Clo_init 19 = .ok (.putfield 15, 3) := by decide +kernel
theorem d_Clo_init_22 : decode b_Clo_init 22 = .ok (.aload_n 0, 1) := by decide +kernel
theorem d_Clo_init_23 : decode b_Clo_init 23 = .ok (.iconst 0, 1) := by decide +kernel
theorem d_Clo_init_24 : decode b_Clo_init 24 = .ok (.putfield 18, 3) := by decide +kernel
theorem d_Clo_init_27 : decode b_Clo_init 27 = .ok (.aload_n 0, 1) := by decide +kernel
theorem d_Clo_init_28 : decode b_Clo_init 28 = .ok (.aload_n 1, 1) := by decide +kernel
theorem d_Clo_init_29 : decode b_Clo_init 29 = .ok (.putfield 22, 3) := by decide +kernel
theorem d_Clo_init_32 : decode b_Clo_init 32 = .ok (.return_, 1) := by decide +kernel
theorem d_Reas_init_0 : decode b_Reas_init 0 = .ok (.aload_n 0, 1) := by decide +kernel
theorem d_Reas_init_1 : decode b_Reas_init 1 = .ok (.invokespecial 3, 3) := by decide +kernel
theorem d_Reas_init_4 : decode b_Reas_init 4 = .ok (.aload_n 0, 1) := by decide +kernel
theorem d_Reas_init_5 : decode b_Reas_init 5 = .ok (.aload_n 1, 1) := by decide +kernel
theorem d_Reas_init_6 : decode b_Reas_init 6 = .ok (.putfield 9, 3) := by decide +kernel
theorem d_Reas_init_9 : decode b_Reas_init 9 = .ok (.aload_n 0, 1) := by decide +kernel
theorem d_Reas_init_10 : decode b_Reas_init 10 = .ok (.aload_n 2, 1) := by decide +kernel
theorem d_Reas_init_11 : decode b_Reas_init 11 = .ok (.putfield 15, 3) := by decide +kernel
theorem d_Reas_init_14 : decode b_Reas_init 14 = .ok (.return_, 1) := by decide +kernel
theorem d_FU_init_0 : decode b_FU_init 0 = .ok (.aload_n 0, 1) := by decide +kernel
theorem d_FU_init_1 : decode b_FU_init 1 = .ok (.invokespecial 3, 3) := by decide +kernel
theorem d_FU_init_4 : decode b_FU_init 4 = .ok (.aload_n 0, 1) := by decide +kernel
theorem d_FU_init_5 : decode b_FU_init 5 = .ok (.new 9, 3) := by decide +kernel
theorem d_FU_init_8 : decode b_FU_init 8 = .ok (.dup, 1) := by decide +kernel
theorem d_FU_init_9 : decode b_FU_init 9 = .ok (.invokespecial 11, 3) := by decide +kernel
theorem d_FU_init_12 : decode b_FU_init 12 = .ok (.putfield 12, 3) := by decide +kernel
theorem d_FU_init_15 : decode b_FU_init 15 = .ok (.aload_n 0, 1) := by decide +kernel
theorem d_FU_init_16 : decode b_FU_init 16 = .ok (.new 16, 3) := by decide +kernel
theorem d_FU_init_19 : decode b_FU_init 19 = .ok (.dup, 1) := by decide +kernel
theorem d_FU_init_20 : decode b_FU_init 20 = .ok (.invokespecial 18, 3) := by decide +kernel
theorem d_FU_init_23 : decode b_FU_init 23 = .ok (.putfield 19, 3) := by decide +kernel
theorem d_FU_init_26 : decode b_FU_init 26 = .ok (.aload_n 0, 1) := by decide +kernel
theorem d_FU_init_27 : decode b_FU_init 27 = .ok (.new 23, 3) := by decide +kernel
theorem d_FU_init_30 : decode b_FU_init 30 = .ok (.dup, 1) := by decide +kernel
theorem d_FU_init_31 : decode b_FU_init 31 = .ok (.invokespecial 25, 3) := by decide +kernel
theorem d_FU_init_34 : decode b_FU_init 34 = .ok (.putfield 26, 3) := by decide +kernel
theorem d_FU_init_37 : decode b_FU_init 37 = .ok (.aload_n 0, 1) := by decide +kernel
theorem d_FU_init_38 : decode b_FU_init 38 = .ok (.new 30, 3) := by decide +kernel
theorem d_FU_init_41 : decode b_FU_init 41 = .ok (.dup, 1) := by decide +kernel
theorem d_FU_init_42 : decode b_FU_init 42 = .ok (.invokespecial 32, 3) := by decide +kernel
theorem d_FU_init_45 : decode b_FU_init 45 = .ok (.putfield 33, 3) := by decide +kernel
theorem d_FU_init_48 : decode b_FU_init 48 = .ok (.aload_n 0, 1) := by decide +kernel
theorem d_FU_init_49 : decode b_FU_init 49 = .ok (.new 37, 3) := by decide +kernel
theorem d_FU_init_52 : decode b_FU_init 52 = .ok (.dup, 1) := by decide +kernel
theorem d_FU_init_53 : decode b_FU_init 53 = .ok (.aload_n 0, 1) := by decide +kernel
theorem d_FU_init_54 : decode b_FU_init 54 = .ok (.getfield 12, 3) := by decide +kernel
theorem d_FU_init_57 : decode b_FU_init 57 = .ok (.aload_n 0, 1) := by decide +kernel
theorem d_FU_init_58 : decode b_FU_init 58 = .ok (.getfield 19, 3) := by decide +kernel
theorem d_FU_init_61 : decode b_FU_init 61 = .ok (.aload_n 0, 1) := by decide +kernel
theorem d_FU_init_62 : decode b_FU_init 62 = .ok (.getfield 26, 3) := by decide +kernel
theorem d_FU_init_65 : decode b_FU_init 65 = .ok (.aload_n 0, 1) := by decide +kernel
theorem d_FU_init_66 : decode b_FU_init 66 = .ok (.getfield 33, 3) := by decide +kernel
theorem d_FU_init_69 : decode b_FU_init 69 = .ok (.invokespecial 39, 3) := by decide +kernel
theorem d_FU_init_72 : decode b_FU_init 72 = .ok (.putfield 42, 3) := by decide +kernel
theorem d_FU_init_75 : decode b_FU_init 75 = .ok (.aload_n 0, 1) := by decide +kernel
theorem d_FU_init_76 : decode b_FU_init 76 = .ok (.new 46, 3) := by decide +kernel
theorem d_FU_init_79 : decode b_FU_init 79 = .ok (.dup, 1) := by decide +kernel
theorem d_FU_init_80 : decode b_FU_init 80 = .ok (.aload_n 0, 1) := by decide +kernel
theorem d_FU_init_81 : decode b_FU_init 81 = .ok (.getfield 42, 3) := by decide +kernel
theorem d_FU_init_84 : decode b_FU_init 84 = .ok (.invokespecial 48, 3) := by decide +kernel
theorem d_FU_init_87 : decode b_FU_init 87 = .ok (.putfield 51, 3) := by decide +kernel
theorem d_FU_init_90 : decode b_FU_init 90 = .ok (.aload_n 0, 1) := by decide +kernel
theorem d_FU_init_91 : decode b_FU_init 91 = .ok (.new 46, 3) := by decide +kernel
theorem d_FU_init_94 : decode b_FU_init 94 = .ok (.dup, 1) := by decide +kernel
theorem d_FU_init_95 : decode b_FU_init 95 = .ok (.aload_n 0, 1) := by decide +kernel
theorem d_FU_init_96 : decode b_FU_init 96 = .ok (.getfield 42, 3) := by decide +kernel
theorem d_FU_init_99 : decode b_FU_init 99 = .ok (.invokespecial 48, 3) := by decide +kernel
theorem d_FU_init_102 : decode b_FU_init 102 = .ok (.putfield 55, 3) := by decide +kernel
theorem d_FU_init_105 : decode b_FU_init 105 = .ok (.aload_n 0, 1) := by decide +kernel
theorem d_FU_init_106 : decode b_FU_init 106 = .ok (.new 58, 3) := by decide +kernel
theorem d_FU_init_109 : decode b_FU_init 109 = .ok (.dup, 1) := by decide +kernel
theorem d_FU_init_110 : decode b_FU_init 110 = .ok (.aload_n 0, 1) := by decide +kernel
theorem d_FU_init_111 : decode b_FU_init 111 = .ok (.getfield 42, 3) := by decide +kernel
theorem d_FU_init_114 : decode b_FU_init 114 = .ok (.aload_n 0, 1) := by decide +kernel
theorem d_FU_init_115 : decode b_FU_init 115 = .ok (.getfield 51, 3) := by decide +kernel
theorem d_FU_init_118 : decode b_FU_init 118 = .ok (.invokespecial 60, 3) := by decide +kernel
theorem d_FU_init_121 : decode b_FU_init 121 = .ok (.putfield 63, 3) := by decide +kernel
theorem d_FU_init_124 : decode b_FU_init 124 = .ok (.aload_n 0, 1) := by decide +kernel
theorem d_FU_init_125 : decode b_FU_init 125 = .ok (.bipush 120, 2) := by decide +kernel
theorem d_FU_init_127 : decode b_FU_init 127 = .ok (.newarray .int, 2) := by decide +kernel
theorem d_FU_init_129 : decode b_FU_init 129 = .ok (.putfield 67, 3) := by decide +kernel
theorem d_FU_init_132 : decode b_FU_init 132 = .ok (.aload_n 0, 1) := by decide +kernel
theorem d_FU_init_133 : decode b_FU_init 133 = .ok (.iconst 0, 1) := by decide +kernel
theorem d_FU_init_134 : decode b_FU_init 134 = .ok (.putfield 71, 3) := by decide +kernel
theorem d_FU_init_137 : decode b_FU_init 137 = .ok (.aload_n 0, 1) := by decide +kernel
theorem d_FU_init_138 : decode b_FU_init 138 = .ok (.iconst 0, 1) := by decide +kernel
theorem d_FU_init_139 : decode b_FU_init 139 = .ok (.putfield 75, 3) := by decide +kernel
theorem d_FU_init_142 : decode b_FU_init 142 = .ok (.return_, 1) := by decide +kernel
theorem d_Packs_add_0 : decode b_Packs_add 0 = .ok (.aload_n 0, 1) := by decide +kernel
theorem d_Packs_add_1 : decode b_Packs_add 1 = .ok (.getfield 21, 3) := by decide +kernel
theorem d_Packs_add_4 : decode b_Packs_add 4 = .ok (.aload_n 0, 1) := by decide +kernel
theorem d_Packs_add_5 : decode b_Packs_add 5 = .ok (.getfield 9, 3) := by decide +kernel
theorem d_Packs_add_8 : decode b_Packs_add 8 = .ok (.iload_n 1, 1) := by decide +kernel
theorem d_Packs_add_9 : decode b_Packs_add 9 = .ok (.bastore, 1) := by decide +kernel
theorem d_Packs_add_10 : decode b_Packs_add 10 = .ok (.aload_n 0, 1) := by decide +kernel
theorem d_Packs_add_11 : decode b_Packs_add 11 = .ok (.dup, 1) := by decide +kernel
theorem d_Packs_add_12 : decode b_Packs_add 12 = .ok (.getfield 9, 3) := by decide +kernel
theorem d_Packs_add_15 : decode b_Packs_add 15 = .ok (.iconst 1, 1) := by decide +kernel
theorem d_Packs_add_16 : decode b_Packs_add 16 = .ok (.iadd, 1) := by decide +kernel
theorem d_Packs_add_17 : decode b_Packs_add 17 = .ok (.putfield 9, 3) := by decide +kernel
theorem d_Packs_add_20 : decode b_Packs_add 20 = .ok (.aload_n 0, 1) := by decide +kernel
theorem d_Packs_add_21 : decode b_Packs_add 21 = .ok (.getfield 9, 3) := by decide +kernel
theorem d_Packs_add_24 : decode b_Packs_add 24 = .ok (.iconst 1, 1) := by decide +kernel
theorem d_Packs_add_25 : decode b_Packs_add 25 = .ok (.isub, 1) := by decide +kernel
theorem d_Packs_add_26 : decode b_Packs_add 26 = .ok (.ireturn, 1) := by decide +kernel
theorem d_FU_pack_0 : decode b_FU_pack 0 = .ok (.aload_n 0, 1) := by decide +kernel
theorem d_FU_pack_1 : decode b_FU_pack 1 = .ok (.getfield 12, 3) := by decide +kernel
theorem d_FU_pack_4 : decode b_FU_pack 4 = .ok (.getfield 79, 3) := by decide +kernel
theorem d_FU_pack_7 : decode b_FU_pack 7 = .ok (.bipush 10, 2) := by decide +kernel
theorem d_FU_pack_9 : decode b_FU_pack 9 = .ok (.if_icmp .lt 5, 3) := by decide +kernel
theorem d_FU_pack_12 : decode b_FU_pack 12 = .ok (.iconst (-1), 1) := by decide +kernel
theorem d_FU_pack_13 : decode b_FU_pack 13 = .ok (.ireturn, 1) := by decide +kernel
theorem d_FU_pack_14 : decode b_FU_pack 14 = .ok (.aload_n 0, 1) := by decide +kernel
theorem d_FU_pack_15 : decode b_FU_pack 15 = .ok (.iconst 0, 1) := by decide +kernel
theorem d_FU_pack_16 : decode b_FU_pack 16 = .ok (.putfield 75, 3) := by decide +kernel
theorem d_FU_pack_19 : decode b_FU_pack 19 = .ok (.aload_n 0, 1) := by decide +kernel
theorem d_FU_pack_20 : decode b_FU_pack 20 = .ok (.getfield 12, 3) := by decide +kernel
theorem d_FU_pack_23 : decode b_FU_pack 23 = .ok (.iload_n 1, 1) := by decide +kernel
theorem d_FU_pack_24 : decode b_FU_pack 24 = .ok (.invokevirtual 82, 3) := by decide +kernel
theorem d_FU_pack_27 : decode b_FU_pack 27 = .ok (.ireturn, 1) := by decide +kernel
theorem d_FU_within_0 : decode b_FU_within 0 = .ok (.iload_n 0, 1) := by decide +kernel
theorem d_FU_within_1 : decode b_FU_within 1 = .ok (.ifCond .lt 12, 3) := by decide +kernel
theorem d_FU_within_4 : decode b_FU_within 4 = .ok (.iload_n 0, 1) := by decide +kernel
theorem d_FU_within_5 : decode b_FU_within 5 = .ok (.iload_n 1, 1) := by decide +kernel
theorem d_FU_within_6 : decode b_FU_within 6 = .ok (.if_icmp .ge 7, 3) := by decide +kernel
theorem d_FU_within_9 : decode b_FU_within 9 = .ok (.iconst 1, 1) := by decide +kernel
theorem d_FU_within_10 : decode b_FU_within 10 = .ok (.goto 4, 3) := by decide +kernel
theorem d_FU_within_13 : decode b_FU_within 13 = .ok (.iconst 0, 1) := by decide +kernel
theorem d_FU_within_14 : decode b_FU_within 14 = .ok (.ireturn, 1) := by decide +kernel
theorem d_Packs_has_0 : decode b_Packs_has 0 = .ok (.iload_n 1, 1) := by decide +kernel
theorem d_Packs_has_1 : decode b_Packs_has 1 = .ok (.aload_n 0, 1) := by decide +kernel
theorem d_Packs_has_2 : decode b_Packs_has 2 = .ok (.getfield 9, 3) := by decide +kernel
theorem d_Packs_has_5 : decode b_Packs_has 5 = .ok (.invokestatic 25, 3) := by decide +kernel
theorem d_Packs_has_8 : decode b_Packs_has 8 = .ok (.ireturn, 1) := by decide +kernel
theorem d_Feats_find_0 : decode b_Feats_find 0 = .ok (.iconst 0, 1) := by decide +kernel
theorem d_Feats_find_1 : decode b_Feats_find 1 = .ok (.istore_n 3, 1) := by decide +kernel
theorem d_Feats_find_2 : decode b_Feats_find 2 = .ok (.iload_n 3, 1) := by decide +kernel
theorem d_Feats_find_3 : decode b_Feats_find 3 = .ok (.aload_n 0, 1) := by decide +kernel
theorem d_Feats_find_4 : decode b_Feats_find 4 = .ok (.getfield 9, 3) := by decide +kernel
theorem d_Feats_find_7 : decode b_Feats_find 7 = .ok (.if_icmp .ge 31, 3) := by decide +kernel
theorem d_Feats_find_10 : decode b_Feats_find 10 = .ok (.aload_n 0, 1) := by decide +kernel
theorem d_Feats_find_11 : decode b_Feats_find 11 = .ok (.getfield 15, 3) := by decide +kernel
theorem d_Feats_find_14 : decode b_Feats_find 14 = .ok (.iload_n 3, 1) := by decide +kernel
theorem d_Feats_find_15 : decode b_Feats_find 15 = .ok (.iaload, 1) := by decide +kernel
theorem d_Feats_find_16 : decode b_Feats_find 16 = .ok (.iload_n 1, 1) := by decide +kernel
theorem d_Feats_find_17 : decode b_Feats_find 17 = .ok (.if_icmp .ne 15, 3) := by decide +kernel
theorem d_Feats_find_20 : decode b_Feats_find 20 = .ok (.aload_n 0, 1) := by decide +kernel
theorem d_Feats_find_21 : decode b_Feats_find 21 = .ok (.getfield 19, 3) := by decide +kernel
theorem d_Feats_find_24 : decode b_Feats_find 24 = .ok (.iload_n 3, 1) := by decide +kernel
theorem d_Feats_find_25 : decode b_Feats_find 25 = .ok (.iaload, 1) := by decide +kernel
theorem d_Feats_find_26 : decode b_Feats_find 26 = .ok (.iload_n 2, 1) := by decide +kernel
theorem d_Feats_find_27 : decode b_Feats_find 27 = .ok (.if_icmp .ne 5, 3) := by decide +kernel
theorem d_Feats_find_30 : decode b_Feats_find 30 = .ok (.iload_n 3, 1) := by decide +kernel
theorem d_Feats_find_31 : decode b_Feats_find 31 = .ok (.ireturn, 1) := by decide +kernel
theorem d_Feats_find_32 : decode b_Feats_find 32 = .ok (.iinc 3 1, 3) := by decide +kernel
theorem d_Feats_find_35 : decode b_Feats_find 35 = .ok (.goto (-33), 3) := by decide +kernel
theorem d_Feats_find_38 : decode b_Feats_find 38 = .ok (.iconst (-1), 1) := by decide +kernel
theorem d_Feats_find_39 : decode b_Feats_find 39 = .ok (.ireturn, 1) := by decide +kernel
theorem d_Feats_countOf_0 : decode b_Feats_countOf 0 = .ok (.iconst 0, 1) := by decide +kernel
theorem d_Feats_countOf_1 : decode b_Feats_countOf 1 = .ok (.istore_n 2, 1) := by decide +kernel
theorem d_Feats_countOf_2 : decode b_Feats_countOf 2 = .ok (.iconst 0, 1) := by decide +kernel
theorem d_Feats_countOf_3 : decode b_Feats_countOf 3 = .ok (.istore_n 3, 1) := by decide +kernel
theorem d_Feats_countOf_4 : decode b_Feats_countOf 4 = .ok (.iload_n 3, 1) := by decide +kernel
theorem d_Feats_countOf_5 : decode b_Feats_countOf 5 = .ok (.aload_n 0, 1) := by decide +kernel
theorem d_Feats_countOf_6 : decode b_Feats_countOf 6 = .ok (.getfield 9, 3) := by decide +kernel
theorem d_Feats_countOf_9 : decode b_Feats_countOf 9 = .ok (.if_icmp .ge 22, 3) := by decide +kernel
theorem d_Feats_countOf_12 : decode b_Feats_countOf 12 = .ok (.aload_n 0, 1) := by decide +kernel
theorem d_Feats_countOf_13 : decode b_Feats_countOf 13 = .ok (.getfield 15, 3) := by decide +kernel
theorem d_Feats_countOf_16 : decode b_Feats_countOf 16 = .ok (.iload_n 3, 1) := by decide +kernel
theorem d_Feats_countOf_17 : decode b_Feats_countOf 17 = .ok (.iaload, 1) := by decide +kernel
theorem d_Feats_countOf_18 : decode b_Feats_countOf 18 = .ok (.iload_n 1, 1) := by decide +kernel
theorem d_Feats_countOf_19 : decode b_Feats_countOf 19 = .ok (.if_icmp .ne 6, 3) := by decide +kernel
theorem d_Feats_countOf_22 : decode b_Feats_countOf 22 = .ok (.iinc 2 1, 3) := by decide +kernel
theorem d_Feats_countOf_25 : decode b_Feats_countOf 25 = .ok (.iinc 3 1, 3) := by decide +kernel
theorem d_Feats_countOf_28 : decode b_Feats_countOf 28 = .ok (.goto (-24), 3) := by decide +kernel
theorem d_Feats_countOf_31 : decode b_Feats_countOf 31 = .ok (.iload_n 2, 1) := by decide +kernel
theorem d_Feats_countOf_32 : decode b_Feats_countOf 32 = .ok (.ireturn, 1) := by decide +kernel
theorem d_Feats_add_0 : decode b_Feats_add 0 = .ok (.aload_n 0, 1) := by decide +kernel
theorem d_Feats_add_1 : decode b_Feats_add 1 = .ok (.getfield 15, 3) := by decide +kernel
theorem d_Feats_add_4 : decode b_Feats_add 4 = .ok (.aload_n 0, 1) := by decide +kernel
theorem d_Feats_add_5 : decode b_Feats_add 5 = .ok (.getfield 9, 3) := by decide +kernel
theorem d_Feats_add_8 : decode b_Feats_add 8 = .ok (.iload_n 1, 1) := by decide +kernel
theorem d_Feats_add_9 : decode b_Feats_add 9 = .ok (.iastore, 1) := by decide +kernel
theorem d_Feats_add_10 : decode b_Feats_add 10 = .ok (.aload_n 0, 1) := by decide +kernel
theorem d_Feats_add_11 : decode b_Feats_add 11 = .ok (.getfield 19, 3) := by decide +kernel
theorem d_Feats_add_14 : decode b_Feats_add 14 = .ok (.aload_n 0, 1) := by decide +kernel
theorem d_Feats_add_15 : decode b_Feats_add 15 = .ok (.getfield 9, 3) := by decide +kernel
theorem d_Feats_add_18 : decode b_Feats_add 18 = .ok (.iload_n 2, 1) := by decide +kernel
theorem d_Feats_add_19 : decode b_Feats_add 19 = .ok (.iastore, 1) := by decide +kernel
theorem d_Feats_add_20 : decode b_Feats_add 20 = .ok (.aload_n 0, 1) := by decide +kernel
theorem d_Feats_add_21 : decode b_Feats_add 21 = .ok (.getfield 22, 3) := by decide +kernel
theorem d_Feats_add_24 : decode b_Feats_add 24 = .ok (.aload_n 0, 1) := by decide +kernel
theorem d_Feats_add_25 : decode b_Feats_add 25 = .ok (.getfield 9, 3) := by decide +kernel
theorem d_Feats_add_28 : decode b_Feats_add 28 = .ok (.iload 4, 2) := by decide +kernel
theorem d_Feats_add_30 : decode b_Feats_add 30 = .ok (.iastore, 1) := by decide +kernel
theorem d_Feats_add_31 : decode b_Feats_add 31 = .ok (.aload_n 0, 1) := by decide +kernel
theorem d_Feats_add_32 : decode b_Feats_add 32 = .ok (.getfield 25, 3) := by decide +kernel
theorem d_Feats_add_35 : decode b_Feats_add 35 = .ok (.aload_n 0, 1) := by decide +kernel
theorem d_Feats_add_36 : decode b_Feats_add 36 = .ok (.getfield 9, 3) := by decide +kernel
theorem d_Feats_add_39 : decode b_Feats_add 39 = .ok (.iload_n 3, 1) := by decide +kernel
theorem d_Feats_add_40 : decode b_Feats_add 40 = .ok (.bastore, 1) := by decide +kernel
theorem d_Feats_add_41 : decode b_Feats_add 41 = .ok (.aload_n 0, 1) := by decide +kernel
theorem d_Feats_add_42 : decode b_Feats_add 42 = .ok (.dup, 1) := by decide +kernel
theorem d_Feats_add_43 : decode b_Feats_add 43 = .ok (.getfield 9, 3) := by decide +kernel
theorem d_Feats_add_46 : decode b_Feats_add 46 = .ok (.iconst 1, 1) := by decide +kernel
theorem d_Feats_add_47 : decode b_Feats_add 47 = .ok (.iadd, 1) := by decide +kernel
theorem d_Feats_add_48 : decode b_Feats_add 48 = .ok (.putfield 9, 3) := by decide +kernel
theorem d_Feats_add_51 : decode b_Feats_add 51 = .ok (.aload_n 0, 1) := by decide +kernel
theorem d_Feats_add_52 : decode b_Feats_add 52 = .ok (.getfield 9, 3) := by decide +kernel
theorem d_Feats_add_55 : decode b_Feats_add 55 = .ok (.iconst 1, 1) := by decide +kernel
theorem d_Feats_add_56 : decode b_Feats_add 56 = .ok (.isub, 1) := by decide +kernel
theorem d_Feats_add_57 : decode b_Feats_add 57 = .ok (.ireturn, 1) := by decide +kernel
theorem d_FU_feature_0 : decode b_FU_feature 0 = .ok (.aload_n 0, 1) := by decide +kernel
theorem d_FU_feature_1 : decode b_FU_feature 1 = .ok (.getfield 12, 3) := by decide +kernel
theorem d_FU_feature_4 : decode b_FU_feature 4 = .ok (.iload_n 1, 1) := by decide +kernel
theorem d_FU_feature_5 : decode b_FU_feature 5 = .ok (.invokevirtual 86, 3) := by decide +kernel
theorem d_FU_feature_8 : decode b_FU_feature 8 = .ok (.ifCond .eq 22, 3) := by decide +kernel
theorem d_FU_feature_11 : decode b_FU_feature 11 = .ok (.iload_n 2, 1) := by decide +kernel
theorem d_FU_feature_12 : decode b_FU_feature 12 = .ok (.bipush 32, 2) := by decide +kernel
theorem d_FU_feature_14 : decode b_FU_feature 14 = .ok (.invokestatic 90, 3) := by decide +kernel
theorem d_FU_feature_17 : decode b_FU_feature 17 = .ok (.ifCond .eq 13, 3) := by decide +kernel
theorem d_FU_feature_20 : decode b_FU_feature 20 = .ok (.iload 4, 2) := by decide +kernel
theorem d_FU_feature_22 : decode b_FU_feature 22 = .ok (.bipush 8, 2) := by decide +kernel
theorem d_FU_feature_24 : decode b_FU_feature 24 = .ok (.invokestatic 90, 3) := by decide +kernel
theorem d_FU_feature_27 : decode b_FU_feature 27 = .ok (.ifCond .ne 5, 3) := by decide +kernel
theorem d_FU_feature_30 : decode b_FU_feature 30 = .ok (.iconst (-1), 1) := by decide +kernel
theorem d_FU_feature_31 : decode b_FU_feature 31 = .ok (.ireturn, 1) := by decide +kernel
theorem d_FU_feature_32 : decode b_FU_feature 32 = .ok (.aload_n 0, 1) := by decide +kernel
theorem d_FU_feature_33 : decode b_FU_feature 33 = .ok (.getfield 19, 3) := by decide +kernel
theorem d_FU_feature_36 : decode b_FU_feature 36 = .ok (.iload_n 1, 1) := by decide +kernel
theorem d_FU_feature_37 : decode b_FU_feature 37 = .ok (.iload_n 2, 1) := by decide +kernel
theorem d_FU_feature_38 : decode b_FU_feature 38 = .ok (.invokevirtual 94, 3) := by decide +kernel
theorem d_FU_feature_41 : decode b_FU_feature 41 = .ok (.iconst (-1), 1) := by decide +kernel
theorem d_FU_feature_42 : decode b_FU_feature 42 = .ok (.if_icmp .ne 28, 3) := by decide +kernel
theorem d_FU_feature_45 : decode b_FU_feature 45 = .ok (.aload_n 0, 1) := by decide +kernel
theorem d_FU_feature_46 : decode b_FU_feature 46 = .ok (.getfield 19, 3) := by decide +kernel
theorem d_FU_feature_49 : decode b_FU_feature 49 = .ok (.iload_n 1, 1) := by decide +kernel
theorem d_FU_feature_50 : decode b_FU_feature 50 = .ok (.invokevirtual 98, 3) := by decide +kernel
theorem d_FU_feature_53 : decode b_FU_feature 53 = .ok (.bipush 10, 2) := by decide +kernel
theorem d_FU_feature_55 : decode b_FU_feature 55 = .ok (.if_icmp .ge 15, 3) := by decide +kernel
theorem d_FU_feature_58 : decode b_FU_feature 58 = .ok (.aload_n 0, 1) := by decide +kernel
theorem d_FU_feature_59 : decode b_FU_feature 59 = .ok (.getfield 19, 3) := by decide +kernel
theorem d_FU_feature_62 : decode b_FU_feature 62 = .ok (.getfield 102, 3) := by decide +kernel
theorem d_FU_feature_65 : decode b_FU_feature 65 = .ok (.bipush 60, 2) := by decide +kernel
theorem d_FU_feature_67 : decode b_FU_feature 67 = .ok (.if_icmp .lt 5, 3) := by decide +kernel
theorem d_FU_feature_70 : decode b_FU_feature 70 = .ok (.iconst (-1), 1) := by decide +kernel
theorem d_FU_feature_71 : decode b_FU_feature 71 = .ok (.ireturn, 1) := by decide +kernel
theorem d_FU_feature_72 : decode b_FU_feature 72 = .ok (.aload_n 0, 1) := by decide +kernel
theorem d_FU_feature_73 : decode b_FU_feature 73 = .ok (.iconst 0, 1) := by decide +kernel
theorem d_FU_feature_74 : decode b_FU_feature 74 = .ok (.putfield 75, 3) := by decide +kernel
theorem d_FU_feature_77 : decode b_FU_feature 77 = .ok (.aload_n 0, 1) := by decide +kernel
theorem d_FU_feature_78 : decode b_FU_feature 78 = .ok (.getfield 19, 3) := by decide +kernel
theorem d_FU_feature_81 : decode b_FU_feature 81 = .ok (.iload_n 1, 1) := by decide +kernel
theorem d_FU_feature_82 : decode b_FU_feature 82 = .ok (.iload_n 2, 1) := by decide +kernel
theorem d_FU_feature_83 : decode b_FU_feature 83 = .ok (.iload_n 3, 1) := by decide +kernel
theorem d_FU_feature_84 : decode b_FU_feature 84 = .ok (.iload 4, 2) := by decide +kernel
theorem d_FU_feature_86 : decode b_FU_feature 86 = .ok (.invokevirtual 103, 3) := by decide +kernel
theorem d_FU_feature_89 : decode b_FU_feature 89 = .ok (.ireturn, 1) := by decide +kernel
theorem d_FU_bit_0 : decode b_FU_bit 0 = .ok (.iload_n 0, 1) := by decide +kernel
theorem d_FU_bit_1 : decode b_FU_bit 1 = .ok (.iload_n 1, 1) := by decide +kernel
theorem d_FU_bit_2 : decode b_FU_bit 2 = .ok (.ishr, 1) := by decide +kernel
theorem d_FU_bit_3 : decode b_FU_bit 3 = .ok (.iconst 1, 1) := by decide +kernel
theorem d_FU_bit_4 : decode b_FU_bit 4 = .ok (.iand, 1) := by decide +kernel
theorem d_FU_bit_5 : decode b_FU_bit 5 = .ok (.iconst 1, 1) := by decide +kernel
theorem d_FU_bit_6 : decode b_FU_bit 6 = .ok (.if_icmp .ne 7, 3) := by decide +kernel
theorem d_FU_bit_9 : decode b_FU_bit 9 = .ok (.iconst 1, 1) := by decide +kernel
theorem d_FU_bit_10 : decode b_FU_bit 10 = .ok (.goto 4, 3) := by decide +kernel
theorem d_FU_bit_13 : decode b_FU_bit 13 = .ok (.iconst 0, 1) := by decide +kernel
theorem d_FU_bit_14 : decode b_FU_bit 14 = .ok (.ireturn, 1) := by decide +kernel
theorem d_Packs_makeRoot_0 : decode b_Packs_makeRoot 0 = .ok (.aload_n 0, 1) := by decide +kernel
theorem d_Packs_makeRoot_1 : decode b_Packs_makeRoot 1 = .ok (.dup, 1) := by decide +kernel
theorem d_Packs_makeRoot_2 : decode b_Packs_makeRoot 2 = .ok (.getfield 15, 3) := by decide +kernel
theorem d_Packs_makeRoot_5 : decode b_Packs_makeRoot 5 = .ok (.iconst 1, 1) := by decide +kernel
theorem d_Packs_makeRoot_6 : decode b_Packs_makeRoot 6 = .ok (.iload_n 1, 1) := by decide +kernel
theorem d_Packs_makeRoot_7 : decode b_Packs_makeRoot 7 = .ok (.ishl, 1) := by decide +kernel
theorem d_Packs_makeRoot_8 : decode b_Packs_makeRoot 8 = .ok (.ior, 1) := by decide +kernel
theorem d_Packs_makeRoot_9 : decode b_Packs_makeRoot 9 = .ok (.putfield 15, 3) := by decide +kernel
theorem d_Packs_makeRoot_12 : decode b_Packs_makeRoot 12 = .ok (.iload_n 2, 1) := by decide +kernel
theorem d_Packs_makeRoot_13 : decode b_Packs_makeRoot 13 = .ok (.ifCond .eq 15, 3) := by decide +kernel
theorem d_Packs_makeRoot_16 : decode b_Packs_makeRoot 16 = .ok (.aload_n 0, 1) := by decide +kernel
theorem d_Packs_makeRoot_17 : decode b_Packs_makeRoot 17 = .ok (.dup, 1) := by decide +kernel
theorem d_Packs_makeRoot_18 : decode b_Packs_makeRoot 18 = .ok (.getfield 18, 3) := by decide +kernel
theorem d_Packs_makeRoot_21 : decode b_Packs_makeRoot 21 = .ok (.iconst 1, 1) := by decide +kernel
theorem d_Packs_makeRoot_22 : decode b_Packs_makeRoot 22 = .ok (.iload_n 1, 1) := by decide +kernel
theorem d_Packs_makeRoot_23 : decode b_Packs_makeRoot 23 = .ok (.ishl, 1) := by decide +kernel
theorem d_Packs_makeRoot_24 : decode b_Packs_makeRoot 24 = .ok (.ior, 1) := by decide +kernel
theorem d_Packs_makeRoot_25 : decode b_Packs_makeRoot 25 = .ok (.putfield 18, 3) := by decide +kernel
theorem d_Packs_makeRoot_28 : decode b_Packs_makeRoot 28 = .ok (.return_, 1) := by decide +kernel
theorem d_FU_root_0 : decode b_FU_root 0 = .ok (.aload_n 0, 1) := by decide +kernel
theorem d_FU_root_1 : decode b_FU_root 1 = .ok (.getfield 12, 3) := by decide +kernel
theorem d_FU_root_4 : decode b_FU_root 4 = .ok (.iload_n 1, 1) := by decide +kernel
theorem d_FU_root_5 : decode b_FU_root 5 = .ok (.invokevirtual 86, 3) := by decide +kernel
theorem d_FU_root_8 : decode b_FU_root 8 = .ok (.ifCond .eq 17, 3) := by decide +kernel
theorem d_FU_root_11 : decode b_FU_root 11 = .ok (.aload_n 0, 1) := by decide +kernel
theorem d_FU_root_12 : decode b_FU_root 12 = .ok (.getfield 12, 3) := by decide +kernel
theorem d_FU_root_15 : decode b_FU_root 15 = .ok (.getfield 106, 3) := by decide +kernel
theorem d_FU_root_18 : decode b_FU_root 18 = .ok (.iload_n 1, 1) := by decide +kernel
theorem d_FU_root_19 : decode b_FU_root 19 = .ok (.invokestatic 109, 3) := by decide +kernel
theorem d_FU_root_22 : decode b_FU_root 22 = .ok (.ifCond .eq 5, 3) := by decide +kernel
theorem d_FU_root_25 : decode b_FU_root 25 = .ok (.iconst 0, 1) := by decide +kernel
theorem d_FU_root_26 : decode b_FU_root 26 = .ok (.ireturn, 1) := by decide +kernel
theorem d_FU_root_27 : decode b_FU_root 27 = .ok (.aload_n 0, 1) := by decide +kernel
theorem d_FU_root_28 : decode b_FU_root 28 = .ok (.iconst 0, 1) := by decide +kernel
theorem d_FU_root_29 : decode b_FU_root 29 = .ok (.putfield 75, 3) := by decide +kernel
theorem d_FU_root_32 : decode b_FU_root 32 = .ok (.aload_n 0, 1) := by decide +kernel
theorem d_FU_root_33 : decode b_FU_root 33 = .ok (.getfield 12, 3) := by decide +kernel
theorem d_FU_root_36 : decode b_FU_root 36 = .ok (.iload_n 1, 1) := by decide +kernel
theorem d_FU_root_37 : decode b_FU_root 37 = .ok (.iload_n 2, 1) := by decide +kernel
theorem d_FU_root_38 : decode b_FU_root 38 = .ok (.invokevirtual 112, 3) := by decide +kernel
theorem d_FU_root_41 : decode b_FU_root 41 = .ok (.iconst 1, 1) := by decide +kernel
theorem d_FU_root_42 : decode b_FU_root 42 = .ok (.ireturn, 1) := by decide +kernel
theorem d_Users_add_0 : decode b_Users_add 0 = .ok (.aload_n 0, 1) := by decide +kernel
theorem d_Users_add_1 : decode b_Users_add 1 = .ok (.getfield 15, 3) := by decide +kernel
theorem d_Users_add_4 : decode b_Users_add 4 = .ok (.aload_n 0, 1) := by decide +kernel
theorem d_Users_add_5 : decode b_Users_add 5 = .ok (.getfield 9, 3) := by decide +kernel
theorem d_Users_add_8 : decode b_Users_add 8 = .ok (.iload_n 1, 1) := by decide +kernel
theorem d_Users_add_9 : decode b_Users_add 9 = .ok (.iastore, 1) := by decide +kernel
theorem d_Users_add_10 : decode b_Users_add 10 = .ok (.aload_n 0, 1) := by decide +kernel
theorem d_Users_add_11 : decode b_Users_add 11 = .ok (.getfield 19, 3) := by decide +kernel
theorem d_Users_add_14 : decode b_Users_add 14 = .ok (.aload_n 0, 1) := by decide +kernel
theorem d_Users_add_15 : decode b_Users_add 15 = .ok (.getfield 9, 3) := by decide +kernel
theorem d_Users_add_18 : decode b_Users_add 18 = .ok (.iload_n 2, 1) := by decide +kernel
theorem d_Users_add_19 : decode b_Users_add 19 = .ok (.iastore, 1) := by decide +kernel
theorem d_Users_add_20 : decode b_Users_add 20 = .ok (.aload_n 0, 1) := by decide +kernel
theorem d_Users_add_21 : decode b_Users_add 21 = .ok (.getfield 28, 3) := by decide +kernel
theorem d_Users_add_24 : decode b_Users_add 24 = .ok (.aload_n 0, 1) := by decide +kernel
theorem d_Users_add_25 : decode b_Users_add 25 = .ok (.getfield 9, 3) := by decide +kernel
theorem d_Users_add_28 : decode b_Users_add 28 = .ok (.iload_n 3, 1) := by decide +kernel
theorem d_Users_add_29 : decode b_Users_add 29 = .ok (.bastore, 1) := by decide +kernel
theorem d_Users_add_30 : decode b_Users_add 30 = .ok (.aload_n 0, 1) := by decide +kernel
theorem d_Users_add_31 : decode b_Users_add 31 = .ok (.getfield 32, 3) := by decide +kernel
theorem d_Users_add_34 : decode b_Users_add 34 = .ok (.aload_n 0, 1) := by decide +kernel
theorem d_Users_add_35 : decode b_Users_add 35 = .ok (.getfield 9, 3) := by decide +kernel
theorem d_Users_add_38 : decode b_Users_add 38 = .ok (.iload 4, 2) := by decide +kernel
theorem d_Users_add_40 : decode b_Users_add 40 = .ok (.bastore, 1) := by decide +kernel
theorem d_Users_add_41 : decode b_Users_add 41 = .ok (.aload_n 0, 1) := by decide +kernel
theorem d_Users_add_42 : decode b_Users_add 42 = .ok (.getfield 35, 3) := by decide +kernel
theorem d_Users_add_45 : decode b_Users_add 45 = .ok (.aload_n 0, 1) := by decide +kernel
theorem d_Users_add_46 : decode b_Users_add 46 = .ok (.getfield 9, 3) := by decide +kernel
theorem d_Users_add_49 : decode b_Users_add 49 = .ok (.iload 5, 2) := by decide +kernel
theorem d_Users_add_51 : decode b_Users_add 51 = .ok (.bastore, 1) := by decide +kernel
theorem d_Users_add_52 : decode b_Users_add 52 = .ok (.aload_n 0, 1) := by decide +kernel
theorem d_Users_add_53 : decode b_Users_add 53 = .ok (.getfield 22, 3) := by decide +kernel
theorem d_Users_add_56 : decode b_Users_add 56 = .ok (.aload_n 0, 1) := by decide +kernel
theorem d_Users_add_57 : decode b_Users_add 57 = .ok (.getfield 9, 3) := by decide +kernel
theorem d_Users_add_60 : decode b_Users_add 60 = .ok (.iload 6, 2) := by decide +kernel
theorem d_Users_add_62 : decode b_Users_add 62 = .ok (.iastore, 1) := by decide +kernel
theorem d_Users_add_63 : decode b_Users_add 63 = .ok (.aload_n 0, 1) := by decide +kernel
theorem d_Users_add_64 : decode b_Users_add 64 = .ok (.dup, 1) := by decide +kernel
theorem d_Users_add_65 : decode b_Users_add 65 = .ok (.getfield 9, 3) := by decide +kernel
theorem d_Users_add_68 : decode b_Users_add 68 = .ok (.iconst 1, 1) := by decide +kernel
theorem d_Users_add_69 : decode b_Users_add 69 = .ok (.iadd, 1) := by decide +kernel
theorem d_Users_add_70 : decode b_Users_add 70 = .ok (.putfield 9, 3) := by decide +kernel
theorem d_Users_add_73 : decode b_Users_add 73 = .ok (.aload_n 0, 1) := by decide +kernel
theorem d_Users_add_74 : decode b_Users_add 74 = .ok (.getfield 9, 3) := by decide +kernel
theorem d_Users_add_77 : decode b_Users_add 77 = .ok (.iconst 1, 1) := by decide +kernel
theorem d_Users_add_78 : decode b_Users_add 78 = .ok (.isub, 1) := by decide +kernel
theorem d_Users_add_79 : decode b_Users_add 79 = .ok (.ireturn, 1) := by decide +kernel
theorem d_FU_user_0 : decode b_FU_user 0 = .ok (.aload_n 0, 1) := by decide +kernel
theorem d_FU_user_1 : decode b_FU_user 1 = .ok (.getfield 12, 3) := by decide +kernel
theorem d_FU_user_4 : decode b_FU_user 4 = .ok (.iload_n 1, 1) := by decide +kernel
theorem d_FU_user_5 : decode b_FU_user 5 = .ok (.invokevirtual 86, 3) := by decide +kernel
theorem d_FU_user_8 : decode b_FU_user 8 = .ok (.ifCond .eq 26, 3) := by decide +kernel
theorem d_FU_user_11 : decode b_FU_user 11 = .ok (.aload_n 0, 1) := by decide +kernel
theorem d_FU_user_12 : decode b_FU_user 12 = .ok (.getfield 12, 3) := by decide +kernel
theorem d_FU_user_15 : decode b_FU_user 15 = .ok (.iload_n 2, 1) := by decide +kernel
theorem d_FU_user_16 : decode b_FU_user 16 = .ok (.invokevirtual 86, 3) := by decide +kernel
theorem d_FU_user_19 : decode b_FU_user 19 = .ok (.ifCond .eq 15, 3) := by decide +kernel
theorem d_FU_user_22 : decode b_FU_user 22 = .ok (.aload_n 0, 1) := by decide +kernel
theorem d_FU_user_23 : decode b_FU_user 23 = .ok (.getfield 26, 3) := by decide +kernel
theorem d_FU_user_26 : decode b_FU_user 26 = .ok (.getfield 116, 3) := by decide +kernel
theorem d_FU_user_29 : decode b_FU_user 29 = .ok (.bipush 40, 2) := by decide +kernel
theorem d_FU_user_31 : decode b_FU_user 31 = .ok (.if_icmp .lt 5, 3) := by decide +kernel
theorem d_FU_user_34 : decode b_FU_user 34 = .ok (.iconst (-1), 1) := by decide +kernel
theorem d_FU_user_35 : decode b_FU_user 35 = .ok (.ireturn, 1) := by decide +kernel
theorem d_FU_user_36 : decode b_FU_user 36 = .ok (.aload_n 0, 1) := by decide +kernel
theorem d_FU_user_37 : decode b_FU_user 37 = .ok (.iconst 0, 1) := by decide +kernel
theorem d_FU_user_38 : decode b_FU_user 38 = .ok (.putfield 75, 3) := by decide +kernel
theorem d_FU_user_41 : decode b_FU_user 41 = .ok (.aload_n 0, 1) := by decide +kernel
theorem d_FU_user_42 : decode b_FU_user 42 = .ok (.getfield 26, 3) := by decide +kernel
theorem d_FU_user_45 : decode b_FU_user 45 = .ok (.iload_n 1, 1) := by decide +kernel
theorem d_FU_user_46 : decode b_FU_user 46 = .ok (.iload_n 2, 1) := by decide +kernel
theorem d_FU_user_47 : decode b_FU_user 47 = .ok (.iload_n 3, 1) := by decide +kernel
theorem d_FU_user_48 : decode b_FU_user 48 = .ok (.iload 4, 2) := by decide +kernel
theorem d_FU_user_50 : decode b_FU_user 50 = .ok (.iload 5, 2) := by decide +kernel
theorem d_FU_user_52 : decode b_FU_user 52 = .ok (.iload 6, 2) := by decide +kernel
theorem d_FU_user_54 : decode b_FU_user 54 = .ok (.invokevirtual 117, 3) := by decide +kernel
theorem d_FU_user_57 : decode b_FU_user 57 = .ok (.ireturn, 1) := by decide +kernel
theorem d_Users_has_0 : decode b_Users_has 0 = .ok (.iload_n 1, 1) := by decide +kernel
theorem d_Users_has_1 : decode b_Users_has 1 = .ok (.aload_n 0, 1) := by decide +kernel
theorem d_Users_has_2 : decode b_Users_has 2 = .ok (.getfield 9, 3) := by decide +kernel
theorem d_Users_has_5 : decode b_Users_has 5 = .ok (.invokestatic 38, 3) := by decide +kernel
theorem d_Users_has_8 : decode b_Users_has 8 = .ok (.ireturn, 1) := by decide +kernel
theorem d_FU_asks_0 : decode b_FU_asks 0 = .ok (.aload_n 0, 1) := by decide +kernel
theorem d_FU_asks_1 : decode b_FU_asks 1 = .ok (.getfield 26, 3) := by decide +kernel
theorem d_FU_asks_4 : decode b_FU_asks 4 = .ok (.iload_n 1, 1) := by decide +kernel
theorem d_FU_asks_5 : decode b_FU_asks 5 = .ok (.invokevirtual 120, 3) := by decide +kernel
theorem d_FU_asks_8 : decode b_FU_asks 8 = .ok (.ifCond .ne 5, 3) := by decide +kernel
theorem d_FU_asks_11 : decode b_FU_asks 11 = .ok (.iconst (-1), 1) := by decide +kernel
theorem d_FU_asks_12 : decode b_FU_asks 12 = .ok (.ireturn, 1) := by decide +kernel
theorem d_FU_asks_13 : decode b_FU_asks 13 = .ok (.aload_n 0, 1) := by decide +kernel
theorem d_FU_asks_14 : decode b_FU_asks 14 = .ok (.getfield 19, 3) := by decide +kernel
theorem d_FU_asks_17 : decode b_FU_asks 17 = .ok (.aload_n 0, 1) := by decide +kernel
theorem d_FU_asks_18 : decode b_FU_asks 18 = .ok (.getfield 26, 3) := by decide +kernel
theorem d_FU_asks_21 : decode b_FU_asks 21 = .ok (.getfield 121, 3) := by decide +kernel
theorem d_FU_asks_24 : decode b_FU_asks 24 = .ok (.iload_n 1, 1) := by decide +kernel
theorem d_FU_asks_25 : decode b_FU_asks 25 = .ok (.iaload, 1) := by decide +kernel
theorem d_FU_asks_26 : decode b_FU_asks 26 = .ok (.iload_n 2, 1) := by decide +kernel
theorem d_FU_asks_27 : decode b_FU_asks 27 = .ok (.invokevirtual 94, 3) := by decide +kernel
theorem d_FU_asks_30 : decode b_FU_asks 30 = .ok (.iconst (-1), 1) := by decide +kernel
theorem d_FU_asks_31 : decode b_FU_asks 31 = .ok (.if_icmp .ne 6, 3) := by decide +kernel
theorem d_FU_asks_34 : decode b_FU_asks 34 = .ok (.bipush (-2), 2) := by decide +kernel
theorem d_FU_asks_36 : decode b_FU_asks 36 = .ok (.ireturn, 1) := by decide +kernel
theorem d_FU_asks_37 : decode b_FU_asks 37 = .ok (.aload_n 0, 1) := by decide +kernel
theorem d_FU_asks_38 : decode b_FU_asks 38 = .ok (.getfield 26, 3) := by decide +kernel
theorem d_FU_asks_41 : decode b_FU_asks 41 = .ok (.getfield 124, 3) := by decide +kernel
theorem d_FU_asks_44 : decode b_FU_asks 44 = .ok (.iload_n 1, 1) := by decide +kernel
theorem d_FU_asks_45 : decode b_FU_asks 45 = .ok (.iaload, 1) := by decide +kernel
theorem d_FU_asks_46 : decode b_FU_asks 46 = .ok (.iload_n 2, 1) := by decide +kernel
theorem d_FU_asks_47 : decode b_FU_asks 47 = .ok (.invokestatic 109, 3) := by decide +kernel
theorem d_FU_asks_50 : decode b_FU_asks 50 = .ok (.ifCond .eq 6, 3) := by decide +kernel
theorem d_FU_asks_53 : decode b_FU_asks 53 = .ok (.bipush (-3), 2) := by decide +kernel
theorem d_FU_asks_55 : decode b_FU_asks 55 = .ok (.ireturn, 1) := by decide +kernel
theorem d_FU_asks_56 : decode b_FU_asks 56 = .ok (.aload_n 0, 1) := by decide +kernel
theorem d_FU_asks_57 : decode b_FU_asks 57 = .ok (.iconst 0, 1) := by decide +kernel
theorem d_FU_asks_58 : decode b_FU_asks 58 = .ok (.putfield 75, 3) := by decide +kernel
theorem d_FU_asks_61 : decode b_FU_asks 61 = .ok (.aload_n 0, 1) := by decide +kernel
theorem d_FU_asks_62 : decode b_FU_asks 62 = .ok (.getfield 26, 3) := by decide +kernel
theorem d_FU_asks_65 : decode b_FU_asks 65 = .ok (.getfield 124, 3) := by decide +kernel
theorem d_FU_asks_68 : decode b_FU_asks 68 = .ok (.iload_n 1, 1) := by decide +kernel
theorem d_FU_asks_69 : decode b_FU_asks 69 = .ok (.dup2, 1) := by decide +kernel
theorem d_FU_asks_70 : decode b_FU_asks 70 = .ok (.iaload, 1) := by decide +kernel
theorem d_FU_asks_71 : decode b_FU_asks 71 = .ok (.iconst 1, 1) := by decide +kernel
theorem d_FU_asks_72 : decode b_FU_asks 72 = .ok (.iload_n 2, 1) := by decide +kernel
theorem d_FU_asks_73 : decode b_FU_asks 73 = .ok (.ishl, 1) := by decide +kernel
theorem d_FU_asks_74 : decode b_FU_asks 74 = .ok (.ior, 1) := by decide +kernel
theorem d_FU_asks_75 : decode b_FU_asks 75 = .ok (.iastore, 1) := by decide +kernel
theorem d_FU_asks_76 : decode b_FU_asks 76 = .ok (.iconst 1, 1) := by decide +kernel
theorem d_FU_asks_77 : decode b_FU_asks 77 = .ok (.ireturn, 1) := by decide +kernel
theorem d_Feats_has_0 : decode b_Feats_has 0 = .ok (.iload_n 1, 1) := by decide +kernel
theorem d_Feats_has_1 : decode b_Feats_has 1 = .ok (.aload_n 0, 1) := by decide +kernel
theorem d_Feats_has_2 : decode b_Feats_has 2 = .ok (.getfield 9, 3) := by decide +kernel
theorem d_Feats_has_5 : decode b_Feats_has 5 = .ok (.invokestatic 29, 3) := by decide +kernel
theorem d_Feats_has_8 : decode b_Feats_has 8 = .ok (.ireturn, 1) := by decide +kernel
theorem d_Turns_add_0 : decode b_Turns_add 0 = .ok (.aload_n 0, 1) := by decide +kernel
theorem d_Turns_add_1 : decode b_Turns_add 1 = .ok (.getfield 15, 3) := by decide +kernel
theorem d_Turns_add_4 : decode b_Turns_add 4 = .ok (.aload_n 0, 1) := by decide +kernel
theorem d_Turns_add_5 : decode b_Turns_add 5 = .ok (.getfield 9, 3) := by decide +kernel
theorem d_Turns_add_8 : decode b_Turns_add 8 = .ok (.iload_n 1, 1) := by decide +kernel
theorem d_Turns_add_9 : decode b_Turns_add 9 = .ok (.iastore, 1) := by decide +kernel
theorem d_Turns_add_10 : decode b_Turns_add 10 = .ok (.aload_n 0, 1) := by decide +kernel
theorem d_Turns_add_11 : decode b_Turns_add 11 = .ok (.getfield 19, 3) := by decide +kernel
theorem d_Turns_add_14 : decode b_Turns_add 14 = .ok (.aload_n 0, 1) := by decide +kernel
theorem d_Turns_add_15 : decode b_Turns_add 15 = .ok (.getfield 9, 3) := by decide +kernel
theorem d_Turns_add_18 : decode b_Turns_add 18 = .ok (.iload_n 2, 1) := by decide +kernel
theorem d_Turns_add_19 : decode b_Turns_add 19 = .ok (.iastore, 1) := by decide +kernel
theorem d_Turns_add_20 : decode b_Turns_add 20 = .ok (.aload_n 0, 1) := by decide +kernel
theorem d_Turns_add_21 : decode b_Turns_add 21 = .ok (.getfield 22, 3) := by decide +kernel
theorem d_Turns_add_24 : decode b_Turns_add 24 = .ok (.aload_n 0, 1) := by decide +kernel
theorem d_Turns_add_25 : decode b_Turns_add 25 = .ok (.getfield 9, 3) := by decide +kernel
theorem d_Turns_add_28 : decode b_Turns_add 28 = .ok (.iload_n 3, 1) := by decide +kernel
theorem d_Turns_add_29 : decode b_Turns_add 29 = .ok (.iastore, 1) := by decide +kernel
theorem d_Turns_add_30 : decode b_Turns_add 30 = .ok (.aload_n 0, 1) := by decide +kernel
theorem d_Turns_add_31 : decode b_Turns_add 31 = .ok (.getfield 25, 3) := by decide +kernel
theorem d_Turns_add_34 : decode b_Turns_add 34 = .ok (.aload_n 0, 1) := by decide +kernel
theorem d_Turns_add_35 : decode b_Turns_add 35 = .ok (.getfield 9, 3) := by decide +kernel
theorem d_Turns_add_38 : decode b_Turns_add 38 = .ok (.iload 4, 2) := by decide +kernel
theorem d_Turns_add_40 : decode b_Turns_add 40 = .ok (.iastore, 1) := by decide +kernel
theorem d_Turns_add_41 : decode b_Turns_add 41 = .ok (.aload_n 0, 1) := by decide +kernel
theorem d_Turns_add_42 : decode b_Turns_add 42 = .ok (.dup, 1) := by decide +kernel
theorem d_Turns_add_43 : decode b_Turns_add 43 = .ok (.getfield 9, 3) := by decide +kernel
theorem d_Turns_add_46 : decode b_Turns_add 46 = .ok (.iconst 1, 1) := by decide +kernel
theorem d_Turns_add_47 : decode b_Turns_add 47 = .ok (.iadd, 1) := by decide +kernel
theorem d_Turns_add_48 : decode b_Turns_add 48 = .ok (.putfield 9, 3) := by decide +kernel
theorem d_Turns_add_51 : decode b_Turns_add 51 = .ok (.aload_n 0, 1) := by decide +kernel
theorem d_Turns_add_52 : decode b_Turns_add 52 = .ok (.getfield 9, 3) := by decide +kernel
theorem d_Turns_add_55 : decode b_Turns_add 55 = .ok (.iconst 1, 1) := by decide +kernel
theorem d_Turns_add_56 : decode b_Turns_add 56 = .ok (.isub, 1) := by decide +kernel
theorem d_Turns_add_57 : decode b_Turns_add 57 = .ok (.ireturn, 1) := by decide +kernel
