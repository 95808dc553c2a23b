theorem t_Reas_isByRoot (l1 l2 l3 : Int32) (s : Sg) (R : List AC) : Ct q_Reas_isByRoot [vr 29, vi l1, vi l2, vi l3] s R (f_Reas_isByRoot l1 l2 l3 s) := by
  refine Ct.of (by decide) rfl (ρ := [some (vr 29), some (vi l1), some (vi l2), some (vi l3)]) rfl ?_
  unfold f_Reas_isByRoot
  refine G.aload_n (pc' := 1) d_Reas_isByRoot_0 rfl rfl ?_
  refine G.get (pc' := 4) d_Reas_isByRoot_1 rfl fg_Reas_9 (HX_29 _ _) rfl ?_
  refine G.get (pc' := 7) d_Reas_isByRoot_4 rfl fg_Reas_36 (HX_21 _ _) rfl ?_
  refine G.get (pc' := 10) d_Reas_isByRoot_7 rfl fg_Reas_42 (HX_3 _ _) rfl ?_
  refine G.iload_n (pc' := 11) d_Reas_isByRoot_10 rfl rfl ?_
  refine G.iald (pc' := 12) d_Reas_isByRoot_11 rfl (HX_4 _ _) ?_
  refine G.iload_n (pc' := 13) d_Reas_isByRoot_12 rfl rfl ?_
  refine G.icmp_ne (pc' := 16) (tgt := 47) d_Reas_isByRoot_13 rfl (by decide) ?_ ?_
  · refine G.iload_n (pc' := 17) d_Reas_isByRoot_16 rfl rfl ?_
    refine G.if_ne (pc' := 20) (tgt := 47) d_Reas_isByRoot_17 rfl (by decide) ?_ ?_
    · refine G.aload_n (pc' := 21) d_Reas_isByRoot_20 rfl rfl ?_
      refine G.get (pc' := 24) d_Reas_isByRoot_21 rfl fg_Reas_9 (HX_29 _ _) rfl ?_
      refine G.iload_n (pc' := 25) d_Reas_isByRoot_24 rfl rfl ?_
      refine G.callVi (As := [vi l2]) (n := 1) (i := 21) (ci := 5) (st := []) (t_Snap_isDefaultOfRoot l2 s _) (pc' := 28) d_Reas_isByRoot_25 rfl lm_Reas_48 mk_Snap_isDefaultOfRoot mv_Snap_isDefaultOfRoot ⟨rfl, rfl⟩ ⟨by decide, by decide⟩ (HX_21 _ _) rfl rfl rfl rfl ⟨Nat.le_refl _, Nat.le_refl _⟩ rfl (fun v1 s1 => ?_)
      refine G.if_eq (pc' := 31) (tgt := 47) d_Reas_isByRoot_28 rfl (by decide) ?_ ?_
      · refine G.iconst (v := 0) (pc' := 48) d_Reas_isByRoot_47 rfl kI_0 ?_
        exact G.zretK (by decide) d_Reas_isByRoot_48 rfl ⟨Nat.le_refl _, Nat.le_refl _⟩
      · refine G.aload_n (pc' := 32) d_Reas_isByRoot_31 rfl rfl ?_
        refine G.get (pc' := 35) d_Reas_isByRoot_32 rfl fg_Reas_15 (HX_29 _ _) rfl ?_
        refine G.iload_n (pc' := 36) d_Reas_isByRoot_35 rfl rfl ?_
        refine G.iconst (v := 0) (pc' := 37) d_Reas_isByRoot_36 rfl kI_0 ?_
        refine G.callVi (As := [vi l1, vi 0]) (n := 2) (i := 23) (ci := 6) (st := []) (t_Clo_thereStage_23 l1 0 s1 _) (pc' := 40) d_Reas_isByRoot_37 rfl lm_Reas_52 mk_Clo_thereStage mv_Clo_thereStage ⟨rfl, rfl⟩ ⟨by decide, by decide⟩ (HX_23 _ _) rfl rfl rfl rfl ⟨Nat.le_refl _, Nat.le_refl _⟩ rfl (fun v2 s2 => ?_)
        refine G.if_eq (pc' := 43) (tgt := 47) d_Reas_isByRoot_40 rfl (by decide) ?_ ?_
        · refine G.iconst (v := 0) (pc' := 48) d_Reas_isByRoot_47 rfl kI_0 ?_
          exact G.zretK (by decide) d_Reas_isByRoot_48 rfl ⟨Nat.le_refl _, Nat.le_refl _⟩
        · refine G.iconst (v := 1) (pc' := 44) d_Reas_isByRoot_43 rfl kI_1 ?_
          refine G.goto (tgt := 48) d_Reas_isByRoot_44 (by decide) ?_
          exact G.zretK (by decide) d_Reas_isByRoot_48 rfl ⟨Nat.le_refl _, Nat.le_refl _⟩
    · refine G.iconst (v := 0) (pc' := 48) d_Reas_isByRoot_47 rfl kI_0 ?_
      exact G.zretK (by decide) d_Reas_isByRoot_48 rfl ⟨Nat.le_refl _, Nat.le_refl _⟩
  · refine G.iconst (v := 0) (pc' := 48) d_Reas_isByRoot_47 rfl kI_0 ?_
    exact G.zretK (by decide) d_Reas_isByRoot_48 rfl ⟨Nat.le_refl _, Nat.le_refl _⟩
theorem t_Reas_isByUser (l1 l2 l3 l4 : Int32) (s : Sg) (R : List AC) : Ct q_Reas_isByUser [vr 29, vi l1, vi l2, vi l3, vi l4] s R (f_Reas_isByUser l1 l2 l3 l4 s) := by
  refine Ct.of (by decide) rfl (ρ := [some (vr 29), some (vi l1), some (vi l2), some (vi l3), some (vi l4), none, none]) rfl ?_
  unfold f_Reas_isByUser
  refine G.iload_n (pc' := 1) d_Reas_isByUser_0 rfl rfl ?_
  refine G.iconst (v := 2) (pc' := 2) d_Reas_isByUser_1 rfl kI_2 ?_
  refine G.idivK (by decide) (pc' := 3) d_Reas_isByUser_2 rfl ?_
  refine G.istore (ρ' := [some (vr 29), some (vi l1), some (vi l2), some (vi l3), some (vi l4), some (vi (l2 / 2)), none]) (pc' := 5) d_Reas_isByUser_3 rfl (by decide) rfl ?_
  refine G.iload_n (pc' := 6) d_Reas_isByUser_5 rfl rfl ?_
  refine G.iconst (v := 2) (pc' := 7) d_Reas_isByUser_6 rfl kI_2 ?_
  refine G.iremK (by decide) (pc' := 8) d_Reas_isByUser_7 rfl ?_
  refine G.istore (ρ' := [some (vr 29), some (vi l1), some (vi l2), some (vi l3), some (vi l4), some (vi (l2 / 2)), some (vi (l2 - l2 / 2 * 2))]) (pc' := 10) d_Reas_isByUser_8 rfl (by decide) rfl ?_
  refine G.iload (pc' := 12) d_Reas_isByUser_10 rfl rfl ?_
  refine G.aload_n (pc' := 13) d_Reas_isByUser_12 rfl rfl ?_
  refine G.get (pc' := 16) d_Reas_isByUser_13 rfl fg_Reas_9 (HX_29 _ _) rfl ?_
  refine G.get (pc' := 19) d_Reas_isByUser_16 rfl fg_Reas_58 (HX_21 _ _) rfl ?_
  refine G.icmp_ge (pc' := 22) (tgt := 55) d_Reas_isByUser_19 rfl (by decide) ?_ ?_
  · refine G.iconst (v := 0) (pc' := 56) d_Reas_isByUser_55 rfl kI_0 ?_
    exact G.zretK (by decide) d_Reas_isByUser_56 rfl ⟨Nat.le_refl _, Nat.le_refl _⟩
  · refine G.aload_n (pc' := 23) d_Reas_isByUser_22 rfl rfl ?_
    refine G.get (pc' := 26) d_Reas_isByUser_23 rfl fg_Reas_15 (HX_29 _ _) rfl ?_
    refine G.iload (pc' := 28) d_Reas_isByUser_26 rfl rfl ?_
    refine G.iload (pc' := 30) d_Reas_isByUser_28 rfl rfl ?_
    refine G.callVi (As := [vi (l2 / 2), vi (l2 - l2 / 2 * 2)]) (n := 2) (i := 23) (ci := 6) (st := []) (t_Clo_liveStage_23 (l2 / 2) (l2 - l2 / 2 * 2) s _) (pc' := 33) d_Reas_isByUser_30 rfl lm_Reas_62 mk_Clo_liveStage mv_Clo_liveStage ⟨rfl, rfl⟩ ⟨by decide, by decide⟩ (HX_23 _ _) rfl rfl rfl rfl ⟨Nat.le_refl _, Nat.le_refl _⟩ rfl (fun v1 s1 => ?_)
    refine G.if_eq (pc' := 36) (tgt := 55) d_Reas_isByUser_33 rfl (by decide) ?_ ?_
    · refine G.iconst (v := 0) (pc' := 56) d_Reas_isByUser_55 rfl kI_0 ?_
      exact G.zretK (by decide) d_Reas_isByUser_56 rfl ⟨Nat.le_refl _, Nat.le_refl _⟩
    · refine G.aload_n (pc' := 37) d_Reas_isByUser_36 rfl rfl ?_
      refine G.get (pc' := 40) d_Reas_isByUser_37 rfl fg_Reas_9 (HX_29 _ _) rfl ?_
      refine G.get (pc' := 43) d_Reas_isByUser_40 rfl fg_Reas_65 (HX_21 _ _) rfl ?_
      refine G.iload (pc' := 45) d_Reas_isByUser_43 rfl rfl ?_
      refine G.iload (pc' := 47) d_Reas_isByUser_45 rfl rfl ?_
      refine G.callVi (As := [vi (l2 / 2), vi (l2 - l2 / 2 * 2)]) (n := 2) (i := 8) (ci := 3) (st := []) (t_Users_farSide (l2 / 2) (l2 - l2 / 2 * 2) s1 _) (pc' := 50) d_Reas_isByUser_47 rfl lm_Reas_69 mk_Users_farSide mv_Users_farSide ⟨rfl, rfl⟩ ⟨by decide, by decide⟩ (HX_8 _ _) rfl rfl rfl rfl ⟨Nat.le_refl _, Nat.le_refl _⟩ rfl (fun v2 s2 => ?_)
      refine G.iload (pc' := 52) d_Reas_isByUser_50 rfl rfl ?_
      refine G.icmp_eq (pc' := 55) (tgt := 57) d_Reas_isByUser_52 rfl (by decide) ?_ ?_
      · refine G.iload_n (pc' := 58) d_Reas_isByUser_57 rfl rfl ?_
        refine G.iconst (v := 1) (pc' := 59) d_Reas_isByUser_58 rfl kI_1 ?_
        refine G.icmp_ne (pc' := 62) (tgt := 75) d_Reas_isByUser_59 rfl (by decide) ?_ ?_
        · refine G.aload_n (pc' := 63) d_Reas_isByUser_62 rfl rfl ?_
          refine G.get (pc' := 66) d_Reas_isByUser_63 rfl fg_Reas_9 (HX_29 _ _) rfl ?_
          refine G.iload (pc' := 68) d_Reas_isByUser_66 rfl rfl ?_
          refine G.iload_n (pc' := 69) d_Reas_isByUser_68 rfl rfl ?_
          refine G.callVi (As := [vi (l2 / 2), vi l3]) (n := 2) (i := 21) (ci := 5) (st := []) (t_Snap_isAskedBy (l2 / 2) l3 s2 _) (pc' := 72) d_Reas_isByUser_69 rfl lm_Reas_74 mk_Snap_isAskedBy mv_Snap_isAskedBy ⟨rfl, rfl⟩ ⟨by decide, by decide⟩ (HX_21 _ _) rfl rfl rfl rfl ⟨Nat.le_refl _, Nat.le_refl _⟩ rfl (fun v3 s3 => ?_)
          refine G.goto (tgt := 85) d_Reas_isByUser_72 (by decide) ?_
          exact G.zret d_Reas_isByUser_85 rfl ⟨Nat.le_refl _, Nat.le_refl _⟩
        · refine G.aload_n (pc' := 76) d_Reas_isByUser_75 rfl rfl ?_
          refine G.get (pc' := 79) d_Reas_isByUser_76 rfl fg_Reas_9 (HX_29 _ _) rfl ?_
          refine G.iload (pc' := 81) d_Reas_isByUser_79 rfl rfl ?_
          refine G.iload_n (pc' := 82) d_Reas_isByUser_81 rfl rfl ?_
          refine G.callVi (As := [vi (l2 / 2), vi l3]) (n := 2) (i := 21) (ci := 5) (st := []) (t_Snap_isDefaultFor (l2 / 2) l3 s2 _) (pc' := 85) d_Reas_isByUser_82 rfl lm_Reas_78 mk_Snap_isDefaultFor mv_Snap_isDefaultFor ⟨rfl, rfl⟩ ⟨by decide, by decide⟩ (HX_21 _ _) rfl rfl rfl rfl ⟨Nat.le_refl _, Nat.le_refl _⟩ rfl (fun v4 s4 => ?_)
          exact G.zret d_Reas_isByUser_85 rfl ⟨Nat.le_refl _, Nat.le_refl _⟩
      · refine G.iconst (v := 0) (pc' := 56) d_Reas_isByUser_55 rfl kI_0 ?_
        exact G.zretK (by decide) d_Reas_isByUser_56 rfl ⟨Nat.le_refl _, Nat.le_refl _⟩
theorem t_Reas_isByTurn (l1 l2 l3 l4 : Int32) (s : Sg) (R : List AC) : Ct q_Reas_isByTurn [vr 29, vi l1, vi l2, vi l3, vi l4] s R (f_Reas_isByTurn l1 l2 l3 l4 s) := by
  refine Ct.of (by decide) rfl (ρ := [some (vr 29), some (vi l1), some (vi l2), some (vi l3), some (vi l4), none, none, none, none]) rfl ?_
  unfold f_Reas_isByTurn
  refine G.iload_n (pc' := 1) d_Reas_isByTurn_0 rfl rfl ?_
  refine G.iconst (v := 2) (pc' := 2) d_Reas_isByTurn_1 rfl kI_2 ?_
  refine G.idivK (by decide) (pc' := 3) d_Reas_isByTurn_2 rfl ?_
  refine G.istore (ρ' := [some (vr 29), some (vi l1), some (vi l2), some (vi l3), some (vi l4), some (vi (l2 / 2)), none, none, none]) (pc' := 5) d_Reas_isByTurn_3 rfl (by decide) rfl ?_
  refine G.iload_n (pc' := 6) d_Reas_isByTurn_5 rfl rfl ?_
  refine G.iconst (v := 2) (pc' := 7) d_Reas_isByTurn_6 rfl kI_2 ?_
  refine G.iremK (by decide) (pc' := 8) d_Reas_isByTurn_7 rfl ?_
  refine G.istore (ρ' := [some (vr 29), some (vi l1), some (vi l2), some (vi l3), some (vi l4), some (vi (l2 / 2)), some (vi (l2 - l2 / 2 * 2)), none, none]) (pc' := 10) d_Reas_isByTurn_8 rfl (by decide) rfl ?_
  refine G.iload (pc' := 12) d_Reas_isByTurn_10 rfl rfl ?_
  refine G.aload_n (pc' := 13) d_Reas_isByTurn_12 rfl rfl ?_
  refine G.get (pc' := 16) d_Reas_isByTurn_13 rfl fg_Reas_9 (HX_29 _ _) rfl ?_
  refine G.get (pc' := 19) d_Reas_isByTurn_16 rfl fg_Reas_81 (HX_21 _ _) rfl ?_
  refine G.icmp_ge (pc' := 22) (tgt := 64) d_Reas_isByTurn_19 rfl (by decide) ?_ ?_
  · refine G.iconst (v := 0) (pc' := 65) d_Reas_isByTurn_64 rfl kI_0 ?_
    exact G.zretK (by decide) d_Reas_isByTurn_65 rfl ⟨Nat.le_refl _, Nat.le_refl _⟩
  · refine G.aload_n (pc' := 23) d_Reas_isByTurn_22 rfl rfl ?_
    refine G.get (pc' := 26) d_Reas_isByTurn_23 rfl fg_Reas_9 (HX_29 _ _) rfl ?_
    refine G.get (pc' := 29) d_Reas_isByTurn_26 rfl fg_Reas_84 (HX_21 _ _) rfl ?_
    refine G.get (pc' := 32) d_Reas_isByTurn_29 rfl fg_Reas_88 (HX_16 _ _) rfl ?_
    refine G.iload (pc' := 34) d_Reas_isByTurn_32 rfl rfl ?_
    refine G.iald (pc' := 35) d_Reas_isByTurn_34 rfl (HX_20 _ _) ?_
    refine G.iload_n (pc' := 36) d_Reas_isByTurn_35 rfl rfl ?_
    refine G.icmp_ne (pc' := 39) (tgt := 64) d_Reas_isByTurn_36 rfl (by decide) ?_ ?_
    · refine G.aload_n (pc' := 40) d_Reas_isByTurn_39 rfl rfl ?_
      refine G.get (pc' := 43) d_Reas_isByTurn_40 rfl fg_Reas_15 (HX_29 _ _) rfl ?_
      refine G.aload_n (pc' := 44) d_Reas_isByTurn_43 rfl rfl ?_
      refine G.get (pc' := 47) d_Reas_isByTurn_44 rfl fg_Reas_9 (HX_29 _ _) rfl ?_
      refine G.get (pc' := 50) d_Reas_isByTurn_47 rfl fg_Reas_84 (HX_21 _ _) rfl ?_
      refine G.get (pc' := 53) d_Reas_isByTurn_50 rfl fg_Reas_93 (HX_16 _ _) rfl ?_
      refine G.iload (pc' := 55) d_Reas_isByTurn_53 rfl rfl ?_
      refine G.iald (pc' := 56) d_Reas_isByTurn_55 rfl (HX_17 _ _) ?_
      refine G.iload (pc' := 58) d_Reas_isByTurn_56 rfl rfl ?_
      refine G.callVi (As := [vi (s 17 (ix (l2 / 2))), vi (l2 - l2 / 2 * 2)]) (n := 2) (i := 23) (ci := 6) (st := []) (t_Clo_onStage_23 (s 17 (ix (l2 / 2))) (l2 - l2 / 2 * 2) s _) (pc' := 61) d_Reas_isByTurn_58 rfl lm_Reas_96 mk_Clo_onStage mv_Clo_onStage ⟨rfl, rfl⟩ ⟨by decide, by decide⟩ (HX_23 _ _) rfl rfl rfl rfl ⟨Nat.le_refl _, Nat.le_refl _⟩ rfl (fun v1 s1 => ?_)
      refine G.if_ne (pc' := 64) (tgt := 66) d_Reas_isByTurn_61 rfl (by decide) ?_ ?_
      · refine G.iconst (v := 0) (pc' := 65) d_Reas_isByTurn_64 rfl kI_0 ?_
        exact G.zretK (by decide) d_Reas_isByTurn_65 rfl ⟨Nat.le_refl _, Nat.le_refl _⟩
      · refine G.aload_n (pc' := 67) d_Reas_isByTurn_66 rfl rfl ?_
        refine G.get (pc' := 70) d_Reas_isByTurn_67 rfl fg_Reas_9 (HX_29 _ _) rfl ?_
        refine G.get (pc' := 73) d_Reas_isByTurn_70 rfl fg_Reas_84 (HX_21 _ _) rfl ?_
        refine G.get (pc' := 76) d_Reas_isByTurn_73 rfl fg_Reas_99 (HX_16 _ _) rfl ?_
        refine G.iload (pc' := 78) d_Reas_isByTurn_76 rfl rfl ?_
        refine G.iald (pc' := 79) d_Reas_isByTurn_78 rfl (HX_18 _ _) ?_
        refine G.istore (ρ' := [some (vr 29), some (vi l1), some (vi l2), some (vi l3), some (vi l4), some (vi (l2 / 2)), some (vi (l2 - l2 / 2 * 2)), some (vi (s1 18 (ix (l2 / 2)))), none]) (pc' := 81) d_Reas_isByTurn_79 rfl (by decide) rfl ?_
        refine G.iload_n (pc' := 82) d_Reas_isByTurn_81 rfl rfl ?_
        refine G.iconst (v := 3) (pc' := 83) d_Reas_isByTurn_82 rfl kI_3 ?_
        refine G.icmp_ne (pc' := 86) (tgt := 104) d_Reas_isByTurn_83 rfl (by decide) ?_ ?_
        · refine G.iload (pc' := 88) d_Reas_isByTurn_86 rfl rfl ?_
          refine G.if_ne (pc' := 91) (tgt := 102) d_Reas_isByTurn_88 rfl (by decide) ?_ ?_
          · refine G.iload (pc' := 93) d_Reas_isByTurn_91 rfl rfl ?_
            refine G.iload (pc' := 95) d_Reas_isByTurn_93 rfl rfl ?_
            refine G.icmp_ne (pc' := 98) (tgt := 102) d_Reas_isByTurn_95 rfl (by decide) ?_ ?_
            · refine G.iconst (v := 1) (pc' := 99) d_Reas_isByTurn_98 rfl kI_1 ?_
              refine G.goto (tgt := 103) d_Reas_isByTurn_99 (by decide) ?_
              exact G.zretK (by decide) d_Reas_isByTurn_103 rfl ⟨Nat.le_refl _, Nat.le_refl _⟩
            · refine G.iconst (v := 0) (pc' := 103) d_Reas_isByTurn_102 rfl kI_0 ?_
              exact G.zretK (by decide) d_Reas_isByTurn_103 rfl ⟨Nat.le_refl _, Nat.le_refl _⟩
          · refine G.iconst (v := 0) (pc' := 103) d_Reas_isByTurn_102 rfl kI_0 ?_
            exact G.zretK (by decide) d_Reas_isByTurn_103 rfl ⟨Nat.le_refl _, Nat.le_refl _⟩
        · refine G.aload_n (pc' := 105) d_Reas_isByTurn_104 rfl rfl ?_
          refine G.get (pc' := 108) d_Reas_isByTurn_105 rfl fg_Reas_9 (HX_29 _ _) rfl ?_
          refine G.get (pc' := 111) d_Reas_isByTurn_108 rfl fg_Reas_84 (HX_21 _ _) rfl ?_
          refine G.get (pc' := 114) d_Reas_isByTurn_111 rfl fg_Reas_102 (HX_16 _ _) rfl ?_
          refine G.iload (pc' := 116) d_Reas_isByTurn_114 rfl rfl ?_
          refine G.iald (pc' := 117) d_Reas_isByTurn_116 rfl (HX_19 _ _) ?_
          refine G.istore (ρ' := [some (vr 29), some (vi l1), some (vi l2), some (vi l3), some (vi l4), some (vi (l2 / 2)), some (vi (l2 - l2 / 2 * 2)), some (vi (s1 18 (ix (l2 / 2)))), some (vi (s1 19 (ix (l2 / 2))))]) (pc' := 119) d_Reas_isByTurn_117 rfl (by decide) rfl ?_
          refine G.iload (pc' := 121) d_Reas_isByTurn_119 rfl rfl ?_
          refine G.iconst (v := (-1)) (pc' := 122) d_Reas_isByTurn_121 rfl kI_m1 ?_
          refine G.icmp_eq (pc' := 125) (tgt := 156) d_Reas_isByTurn_122 rfl (by decide) ?_ ?_
          · refine G.iconst (v := 0) (pc' := 157) d_Reas_isByTurn_156 rfl kI_0 ?_
            exact G.zretK (by decide) d_Reas_isByTurn_157 rfl ⟨Nat.le_refl _, Nat.le_refl _⟩
          · refine G.aload_n (pc' := 126) d_Reas_isByTurn_125 rfl rfl ?_
            refine G.get (pc' := 129) d_Reas_isByTurn_126 rfl fg_Reas_9 (HX_29 _ _) rfl ?_
            refine G.iload (pc' := 131) d_Reas_isByTurn_129 rfl rfl ?_
            refine G.callVi (As := [vi (s1 19 (ix (l2 / 2)))]) (n := 1) (i := 21) (ci := 5) (st := []) (t_Snap_counts (s1 19 (ix (l2 / 2))) s1 _) (pc' := 134) d_Reas_isByTurn_131 rfl lm_Reas_105 mk_Snap_counts mv_Snap_counts ⟨rfl, rfl⟩ ⟨by decide, by decide⟩ (HX_21 _ _) rfl rfl rfl rfl ⟨Nat.le_refl _, Nat.le_refl _⟩ rfl (fun v2 s2 => ?_)
            refine G.if_eq (pc' := 137) (tgt := 156) d_Reas_isByTurn_134 rfl (by decide) ?_ ?_
            · refine G.iconst (v := 0) (pc' := 157) d_Reas_isByTurn_156 rfl kI_0 ?_
              exact G.zretK (by decide) d_Reas_isByTurn_157 rfl ⟨Nat.le_refl _, Nat.le_refl _⟩
            · refine G.aload_n (pc' := 138) d_Reas_isByTurn_137 rfl rfl ?_
              refine G.get (pc' := 141) d_Reas_isByTurn_138 rfl fg_Reas_9 (HX_29 _ _) rfl ?_
              refine G.get (pc' := 144) d_Reas_isByTurn_141 rfl fg_Reas_65 (HX_21 _ _) rfl ?_
              refine G.iload (pc' := 146) d_Reas_isByTurn_144 rfl rfl ?_
              refine G.iload (pc' := 148) d_Reas_isByTurn_146 rfl rfl ?_
              refine G.callVi (As := [vi (s1 19 (ix (l2 / 2))), vi (l2 - l2 / 2 * 2)]) (n := 2) (i := 8) (ci := 3) (st := []) (t_Users_farSide (s1 19 (ix (l2 / 2))) (l2 - l2 / 2 * 2) s2 _) (pc' := 151) d_Reas_isByTurn_148 rfl lm_Reas_69 mk_Users_farSide mv_Users_farSide ⟨rfl, rfl⟩ ⟨by decide, by decide⟩ (HX_8 _ _) rfl rfl rfl rfl ⟨Nat.le_refl _, Nat.le_refl _⟩ rfl (fun v3 s3 => ?_)
              refine G.iload (pc' := 153) d_Reas_isByTurn_151 rfl rfl ?_
              refine G.icmp_eq (pc' := 156) (tgt := 158) d_Reas_isByTurn_153 rfl (by decide) ?_ ?_
              · refine G.iload_n (pc' := 159) d_Reas_isByTurn_158 rfl rfl ?_
                refine G.iconst (v := 4) (pc' := 160) d_Reas_isByTurn_159 rfl kI_4 ?_
                refine G.icmp_ne (pc' := 163) (tgt := 177) d_Reas_isByTurn_160 rfl (by decide) ?_ ?_
                · refine G.iload (pc' := 165) d_Reas_isByTurn_163 rfl rfl ?_
                  refine G.iconst (v := 2) (pc' := 166) d_Reas_isByTurn_165 rfl kI_2 ?_
                  refine G.icmp_ne (pc' := 169) (tgt := 173) d_Reas_isByTurn_166 rfl (by decide) ?_ ?_
                  · refine G.iconst (v := 1) (pc' := 170) d_Reas_isByTurn_169 rfl kI_1 ?_
                    refine G.goto (tgt := 202) d_Reas_isByTurn_170 (by decide) ?_
                    exact G.zretK (by decide) d_Reas_isByTurn_202 rfl ⟨Nat.le_refl _, Nat.le_refl _⟩
                  · refine G.iconst (v := 0) (pc' := 174) d_Reas_isByTurn_173 rfl kI_0 ?_
                    refine G.goto (tgt := 202) d_Reas_isByTurn_174 (by decide) ?_
                    exact G.zretK (by decide) d_Reas_isByTurn_202 rfl ⟨Nat.le_refl _, Nat.le_refl _⟩
                · refine G.iload (pc' := 179) d_Reas_isByTurn_177 rfl rfl ?_
                  refine G.iconst (v := 3) (pc' := 180) d_Reas_isByTurn_179 rfl kI_3 ?_
                  refine G.icmp_ne (pc' := 183) (tgt := 201) d_Reas_isByTurn_180 rfl (by decide) ?_ ?_
                  · refine G.aload_n (pc' := 184) d_Reas_isByTurn_183 rfl rfl ?_
                    refine G.get (pc' := 187) d_Reas_isByTurn_184 rfl fg_Reas_15 (HX_29 _ _) rfl ?_
                    refine G.iload (pc' := 189) d_Reas_isByTurn_187 rfl rfl ?_
                    refine G.iload (pc' := 191) d_Reas_isByTurn_189 rfl rfl ?_
                    refine G.callVi (As := [vi (s1 19 (ix (l2 / 2))), vi (l2 - l2 / 2 * 2)]) (n := 2) (i := 23) (ci := 6) (st := []) (t_Clo_liveStage_23 (s1 19 (ix (l2 / 2))) (l2 - l2 / 2 * 2) s3 _) (pc' := 194) d_Reas_isByTurn_191 rfl lm_Reas_62 mk_Clo_liveStage mv_Clo_liveStage ⟨rfl, rfl⟩ ⟨by decide, by decide⟩ (HX_23 _ _) rfl rfl rfl rfl ⟨Nat.le_refl _, Nat.le_refl _⟩ rfl (fun v4 s4 => ?_)
                    refine G.if_eq (pc' := 197) (tgt := 201) d_Reas_isByTurn_194 rfl (by decide) ?_ ?_
                    · refine G.iconst (v := 0) (pc' := 202) d_Reas_isByTurn_201 rfl kI_0 ?_
                      exact G.zretK (by decide) d_Reas_isByTurn_202 rfl ⟨Nat.le_refl _, Nat.le_refl _⟩
                    · refine G.iconst (v := 1) (pc' := 198) d_Reas_isByTurn_197 rfl kI_1 ?_
                      refine G.goto (tgt := 202) d_Reas_isByTurn_198 (by decide) ?_
                      exact G.zretK (by decide) d_Reas_isByTurn_202 rfl ⟨Nat.le_refl _, Nat.le_refl _⟩
                  · refine G.iconst (v := 0) (pc' := 202) d_Reas_isByTurn_201 rfl kI_0 ?_
                    exact G.zretK (by decide) d_Reas_isByTurn_202 rfl ⟨Nat.le_refl _, Nat.le_refl _⟩
              · refine G.iconst (v := 0) (pc' := 157) d_Reas_isByTurn_156 rfl kI_0 ?_
                exact G.zretK (by decide) d_Reas_isByTurn_157 rfl ⟨Nat.le_refl _, Nat.le_refl _⟩
    · refine G.iconst (v := 0) (pc' := 65) d_Reas_isByTurn_64 rfl kI_0 ?_
      exact G.zretK (by decide) d_Reas_isByTurn_65 rfl ⟨Nat.le_refl _, Nat.le_refl _⟩
theorem t_Reas_isByOtherSide (l1 l2 l3 : Int32) (s : Sg) (R : List AC) : Ct q_Reas_isByOtherSide [vr 29, vi l1, vi l2, vi l3] s R (f_Reas_isByOtherSide l1 l2 l3 s) := by
  refine Ct.of (by decide) rfl (ρ := [some (vr 29), some (vi l1), some (vi l2), some (vi l3), none]) rfl ?_
  unfold f_Reas_isByOtherSide
  refine G.aload_n (pc' := 1) d_Reas_isByOtherSide_0 rfl rfl ?_
  refine G.get (pc' := 4) d_Reas_isByOtherSide_1 rfl fg_Reas_9 (HX_29 _ _) rfl ?_
  refine G.get (pc' := 7) d_Reas_isByOtherSide_4 rfl fg_Reas_36 (HX_21 _ _) rfl ?_
  refine G.get (pc' := 10) d_Reas_isByOtherSide_7 rfl fg_Reas_42 (HX_3 _ _) rfl ?_
  refine G.iload_n (pc' := 11) d_Reas_isByOtherSide_10 rfl rfl ?_
  refine G.iald (pc' := 12) d_Reas_isByOtherSide_11 rfl (HX_4 _ _) ?_
  refine G.istore (ρ' := [some (vr 29), some (vi l1), some (vi l2), some (vi l3), some (vi (s 4 (ix l2)))]) (pc' := 14) d_Reas_isByOtherSide_12 rfl (by decide) rfl ?_
  refine G.iload_n (pc' := 15) d_Reas_isByOtherSide_14 rfl rfl ?_
  refine G.iconst (v := 2) (pc' := 16) d_Reas_isByOtherSide_15 rfl kI_2 ?_
  refine G.iload_n (pc' := 17) d_Reas_isByOtherSide_16 rfl rfl ?_
  refine G.imul (pc' := 18) d_Reas_isByOtherSide_17 rfl ?_
  refine G.iconst (v := 1) (pc' := 19) d_Reas_isByOtherSide_18 rfl kI_1 ?_
  refine G.iadd (pc' := 20) d_Reas_isByOtherSide_19 rfl ?_
  refine G.iload_n (pc' := 21) d_Reas_isByOtherSide_20 rfl rfl ?_
  refine G.isub (pc' := 22) d_Reas_isByOtherSide_21 rfl ?_
  refine G.icmp_ne (pc' := 25) (tgt := 72) d_Reas_isByOtherSide_22 rfl (by decide) ?_ ?_
  · refine G.aload_n (pc' := 26) d_Reas_isByOtherSide_25 rfl rfl ?_
    refine G.get (pc' := 29) d_Reas_isByOtherSide_26 rfl fg_Reas_9 (HX_29 _ _) rfl ?_
    refine G.get (pc' := 32) d_Reas_isByOtherSide_29 rfl fg_Reas_108 (HX_21 _ _) rfl ?_
    refine G.get (pc' := 35) d_Reas_isByOtherSide_32 rfl fg_Reas_112 (HX_1 _ _) rfl ?_
    refine G.iload (pc' := 37) d_Reas_isByOtherSide_35 rfl rfl ?_
    refine G.zald (pc' := 38) d_Reas_isByOtherSide_37 rfl (HX_2 _ _) ?_
    refine G.if_ne (pc' := 41) (tgt := 72) d_Reas_isByOtherSide_38 rfl (by decide) ?_ ?_
    · refine G.aload_n (pc' := 42) d_Reas_isByOtherSide_41 rfl rfl ?_
      refine G.get (pc' := 45) d_Reas_isByOtherSide_42 rfl fg_Reas_15 (HX_29 _ _) rfl ?_
      refine G.iload_n (pc' := 46) d_Reas_isByOtherSide_45 rfl rfl ?_
      refine G.iconst (v := 1) (pc' := 47) d_Reas_isByOtherSide_46 rfl kI_1 ?_
      refine G.iload_n (pc' := 48) d_Reas_isByOtherSide_47 rfl rfl ?_
      refine G.isub (pc' := 49) d_Reas_isByOtherSide_48 rfl ?_
      refine G.callVi (As := [vi l2, vi (1 - l3)]) (n := 2) (i := 23) (ci := 6) (st := []) (t_Clo_onStage_23 l2 (1 - l3) s _) (pc' := 52) d_Reas_isByOtherSide_49 rfl lm_Reas_96 mk_Clo_onStage mv_Clo_onStage ⟨rfl, rfl⟩ ⟨by decide, by decide⟩ (HX_23 _ _) rfl rfl rfl rfl ⟨Nat.le_refl _, Nat.le_refl _⟩ rfl (fun v1 s1 => ?_)
      refine G.if_eq (pc' := 55) (tgt := 72) d_Reas_isByOtherSide_52 rfl (by decide) ?_ ?_
      · refine G.iconst (v := 0) (pc' := 73) d_Reas_isByOtherSide_72 rfl kI_0 ?_
        exact G.zretK (by decide) d_Reas_isByOtherSide_73 rfl ⟨Nat.le_refl _, Nat.le_refl _⟩
      · refine G.aload_n (pc' := 56) d_Reas_isByOtherSide_55 rfl rfl ?_
        refine G.get (pc' := 59) d_Reas_isByOtherSide_56 rfl fg_Reas_15 (HX_29 _ _) rfl ?_
        refine G.iload (pc' := 61) d_Reas_isByOtherSide_59 rfl rfl ?_
        refine G.iload_n (pc' := 62) d_Reas_isByOtherSide_61 rfl rfl ?_
        refine G.callVi (As := [vi (s 4 (ix l2)), vi l3]) (n := 2) (i := 23) (ci := 6) (st := []) (t_Clo_thereStage_23 (s 4 (ix l2)) l3 s1 _) (pc' := 65) d_Reas_isByOtherSide_62 rfl lm_Reas_52 mk_Clo_thereStage mv_Clo_thereStage ⟨rfl, rfl⟩ ⟨by decide, by decide⟩ (HX_23 _ _) rfl rfl rfl rfl ⟨Nat.le_refl _, Nat.le_refl _⟩ rfl (fun v2 s2 => ?_)
        refine G.if_eq (pc' := 68) (tgt := 72) d_Reas_isByOtherSide_65 rfl (by decide) ?_ ?_
        · refine G.iconst (v := 0) (pc' := 73) d_Reas_isByOtherSide_72 rfl kI_0 ?_
          exact G.zretK (by decide) d_Reas_isByOtherSide_73 rfl ⟨Nat.le_refl _, Nat.le_refl _⟩
        · refine G.iconst (v := 1) (pc' := 69) d_Reas_isByOtherSide_68 rfl kI_1 ?_
          refine G.goto (tgt := 73) d_Reas_isByOtherSide_69 (by decide) ?_
          exact G.zretK (by decide) d_Reas_isByOtherSide_73 rfl ⟨Nat.le_refl _, Nat.le_refl _⟩
    · refine G.iconst (v := 0) (pc' := 73) d_Reas_isByOtherSide_72 rfl kI_0 ?_
      exact G.zretK (by decide) d_Reas_isByOtherSide_73 rfl ⟨Nat.le_refl _, Nat.le_refl _⟩
  · refine G.iconst (v := 0) (pc' := 73) d_Reas_isByOtherSide_72 rfl kI_0 ?_
    exact G.zretK (by decide) d_Reas_isByOtherSide_73 rfl ⟨Nat.le_refl _, Nat.le_refl _⟩
theorem t_Reas_holds (l1 l2 l3 : Int32) (s : Sg) (R : List AC) : Ct q_Reas_holds [vr 29, vi l1, vi l2, vi l3] s R (f_Reas_holds l1 l2 l3 s) := by
  refine Ct.of (by decide) rfl (ρ := [some (vr 29), some (vi l1), some (vi l2), some (vi l3), none, none]) rfl ?_
  unfold f_Reas_holds
  refine G.iload_n (pc' := 1) d_Reas_holds_0 rfl rfl ?_
  refine G.sipush (v := 128) (pc' := 4) d_Reas_holds_1 rfl kS_128 ?_
  refine G.idivK (by decide) (pc' := 5) d_Reas_holds_4 rfl ?_
  refine G.istore (ρ' := [some (vr 29), some (vi l1), some (vi l2), some (vi l3), some (vi (l1 / 128)), none]) (pc' := 7) d_Reas_holds_5 rfl (by decide) rfl ?_
  refine G.iload_n (pc' := 8) d_Reas_holds_7 rfl rfl ?_
  refine G.sipush (v := 128) (pc' := 11) d_Reas_holds_8 rfl kS_128 ?_
  refine G.iremK (by decide) (pc' := 12) d_Reas_holds_11 rfl ?_
  refine G.istore (ρ' := [some (vr 29), some (vi l1), some (vi l2), some (vi l3), some (vi (l1 / 128)), some (vi (l1 - l1 / 128 * 128))]) (pc' := 14) d_Reas_holds_12 rfl (by decide) rfl ?_
  refine G.iload (pc' := 16) d_Reas_holds_14 rfl rfl ?_
  refine G.ite (fun gs => ?_) (fun gs0 => ?_)
  · refine G.tabIn (off := 44) (tgt := 60) d_Reas_holds_16 gs (by decide) (by decide +kernel) (by decide) ?_
    refine G.aload_n (pc' := 61) d_Reas_holds_60 rfl rfl ?_
    refine G.iload (pc' := 63) d_Reas_holds_61 rfl rfl ?_
    refine G.iload_n (pc' := 64) d_Reas_holds_63 rfl rfl ?_
    refine G.iload_n (pc' := 65) d_Reas_holds_64 rfl rfl ?_
    refine G.callVi (As := [vi (l1 - l1 / 128 * 128), vi l2, vi l3]) (n := 3) (i := 29) (ci := 7) (st := []) (t_Reas_isByRoot (l1 - l1 / 128 * 128) l2 l3 s _) (pc' := 68) d_Reas_holds_65 rfl lm_Reas_23 mk_Reas_isByRoot mv_Reas_isByRoot ⟨rfl, rfl⟩ ⟨by decide, by decide⟩ (HX_29 _ _) rfl rfl rfl rfl ⟨Nat.le_refl _, Nat.le_refl _⟩ rfl (fun v1 s1 => ?_)
    exact G.zret d_Reas_holds_68 rfl ⟨Nat.le_refl _, Nat.le_refl _⟩
  refine G.ite (fun gs => ?_) (fun gs1 => ?_)
  · refine G.tabIn (off := 53) (tgt := 69) d_Reas_holds_16 gs (by decide) (by decide +kernel) (by decide) ?_
    refine G.aload_n (pc' := 70) d_Reas_holds_69 rfl rfl ?_
    refine G.iload (pc' := 72) d_Reas_holds_70 rfl rfl ?_
    refine G.iload (pc' := 74) d_Reas_holds_72 rfl rfl ?_
    refine G.iload_n (pc' := 75) d_Reas_holds_74 rfl rfl ?_
    refine G.iload_n (pc' := 76) d_Reas_holds_75 rfl rfl ?_
    refine G.callVi (As := [vi (l1 / 128), vi (l1 - l1 / 128 * 128), vi l2, vi l3]) (n := 4) (i := 29) (ci := 7) (st := []) (t_Reas_isByUser (l1 / 128) (l1 - l1 / 128 * 128) l2 l3 s _) (pc' := 79) d_Reas_holds_76 rfl lm_Reas_26 mk_Reas_isByUser mv_Reas_isByUser ⟨rfl, rfl⟩ ⟨by decide, by decide⟩ (HX_29 _ _) rfl rfl rfl rfl ⟨Nat.le_refl _, Nat.le_refl _⟩ rfl (fun v2 s2 => ?_)
    exact G.zret d_Reas_holds_79 rfl ⟨Nat.le_refl _, Nat.le_refl _⟩
  refine G.ite (fun gs => ?_) (fun gs2 => ?_)
  · refine G.tabIn (off := 53) (tgt := 69) d_Reas_holds_16 gs (by decide) (by decide +kernel) (by decide) ?_
    refine G.aload_n (pc' := 70) d_Reas_holds_69 rfl rfl ?_
    refine G.iload (pc' := 72) d_Reas_holds_70 rfl rfl ?_
    refine G.iload (pc' := 74) d_Reas_holds_72 rfl rfl ?_
    refine G.iload_n (pc' := 75) d_Reas_holds_74 rfl rfl ?_
    refine G.iload_n (pc' := 76) d_Reas_holds_75 rfl rfl ?_
    refine G.callVi (As := [vi (l1 / 128), vi (l1 - l1 / 128 * 128), vi l2, vi l3]) (n := 4) (i := 29) (ci := 7) (st := []) (t_Reas_isByUser (l1 / 128) (l1 - l1 / 128 * 128) l2 l3 s _) (pc' := 79) d_Reas_holds_76 rfl lm_Reas_26 mk_Reas_isByUser mv_Reas_isByUser ⟨rfl, rfl⟩ ⟨by decide, by decide⟩ (HX_29 _ _) rfl rfl rfl rfl ⟨Nat.le_refl _, Nat.le_refl _⟩ rfl (fun v3 s3 => ?_)
    exact G.zret d_Reas_holds_79 rfl ⟨Nat.le_refl _, Nat.le_refl _⟩
  refine G.ite (fun gs => ?_) (fun gs3 => ?_)
  · refine G.tabIn (off := 64) (tgt := 80) d_Reas_holds_16 gs (by decide) (by decide +kernel) (by decide) ?_
    refine G.aload_n (pc' := 81) d_Reas_holds_80 rfl rfl ?_
    refine G.iload (pc' := 83) d_Reas_holds_81 rfl rfl ?_
    refine G.iload (pc' := 85) d_Reas_holds_83 rfl rfl ?_
    refine G.iload_n (pc' := 86) d_Reas_holds_85 rfl rfl ?_
    refine G.iload_n (pc' := 87) d_Reas_holds_86 rfl rfl ?_
    refine G.callVi (As := [vi (l1 / 128), vi (l1 - l1 / 128 * 128), vi l2, vi l3]) (n := 4) (i := 29) (ci := 7) (st := []) (t_Reas_isByTurn (l1 / 128) (l1 - l1 / 128 * 128) l2 l3 s _) (pc' := 90) d_Reas_holds_87 rfl lm_Reas_30 mk_Reas_isByTurn mv_Reas_isByTurn ⟨rfl, rfl⟩ ⟨by decide, by decide⟩ (HX_29 _ _) rfl rfl rfl rfl ⟨Nat.le_refl _, Nat.le_refl _⟩ rfl (fun v4 s4 => ?_)
    exact G.zret d_Reas_holds_90 rfl ⟨Nat.le_refl _, Nat.le_refl _⟩
  refine G.ite (fun gs => ?_) (fun gs4 => ?_)
  · refine G.tabIn (off := 64) (tgt := 80) d_Reas_holds_16 gs (by decide) (by decide +kernel) (by decide) ?_
    refine G.aload_n (pc' := 81) d_Reas_holds_80 rfl rfl ?_
    refine G.iload (pc' := 83) d_Reas_holds_81 rfl rfl ?_
    refine G.iload (pc' := 85) d_Reas_holds_83 rfl rfl ?_
    refine G.iload_n (pc' := 86) d_Reas_holds_85 rfl rfl ?_
    refine G.iload_n (pc' := 87) d_Reas_holds_86 rfl rfl ?_
    refine G.callVi (As := [vi (l1 / 128), vi (l1 - l1 / 128 * 128), vi l2, vi l3]) (n := 4) (i := 29) (ci := 7) (st := []) (t_Reas_isByTurn (l1 / 128) (l1 - l1 / 128 * 128) l2 l3 s _) (pc' := 90) d_Reas_holds_87 rfl lm_Reas_30 mk_Reas_isByTurn mv_Reas_isByTurn ⟨rfl, rfl⟩ ⟨by decide, by decide⟩ (HX_29 _ _) rfl rfl rfl rfl ⟨Nat.le_refl _, Nat.le_refl _⟩ rfl (fun v5 s5 => ?_)
    exact G.zret d_Reas_holds_90 rfl ⟨Nat.le_refl _, Nat.le_refl _⟩
  refine G.ite (fun gs => ?_) (fun gs5 => ?_)
  · refine G.tabIn (off := 64) (tgt := 80) d_Reas_holds_16 gs (by decide) (by decide +kernel) (by decide) ?_
    refine G.aload_n (pc' := 81) d_Reas_holds_80 rfl rfl ?_
    refine G.iload (pc' := 83) d_Reas_holds_81 rfl rfl ?_
    refine G.iload (pc' := 85) d_Reas_holds_83 rfl rfl ?_
    refine G.iload_n (pc' := 86) d_Reas_holds_85 rfl rfl ?_
    refine G.iload_n (pc' := 87) d_Reas_holds_86 rfl rfl ?_
    refine G.callVi (As := [vi (l1 / 128), vi (l1 - l1 / 128 * 128), vi l2, vi l3]) (n := 4) (i := 29) (ci := 7) (st := []) (t_Reas_isByTurn (l1 / 128) (l1 - l1 / 128 * 128) l2 l3 s _) (pc' := 90) d_Reas_holds_87 rfl lm_Reas_30 mk_Reas_isByTurn mv_Reas_isByTurn ⟨rfl, rfl⟩ ⟨by decide, by decide⟩ (HX_29 _ _) rfl rfl rfl rfl ⟨Nat.le_refl _, Nat.le_refl _⟩ rfl (fun v6 s6 => ?_)
    exact G.zret d_Reas_holds_90 rfl ⟨Nat.le_refl _, Nat.le_refl _⟩
  refine G.ite (fun gs => ?_) (fun gs6 => ?_)
  · refine G.tabIn (off := 75) (tgt := 91) d_Reas_holds_16 gs (by decide) (by decide +kernel) (by decide) ?_
    refine G.aload_n (pc' := 92) d_Reas_holds_91 rfl rfl ?_
    refine G.iload (pc' := 94) d_Reas_holds_92 rfl rfl ?_
    refine G.iload_n (pc' := 95) d_Reas_holds_94 rfl rfl ?_
    refine G.iload_n (pc' := 96) d_Reas_holds_95 rfl rfl ?_
    refine G.callVi (As := [vi (l1 - l1 / 128 * 128), vi l2, vi l3]) (n := 3) (i := 29) (ci := 7) (st := []) (t_Reas_isByOtherSide (l1 - l1 / 128 * 128) l2 l3 s _) (pc' := 99) d_Reas_holds_96 rfl lm_Reas_33 mk_Reas_isByOtherSide mv_Reas_isByOtherSide ⟨rfl, rfl⟩ ⟨by decide, by decide⟩ (HX_29 _ _) rfl rfl rfl rfl ⟨Nat.le_refl _, Nat.le_refl _⟩ rfl (fun v7 s7 => ?_)
    exact G.zret d_Reas_holds_99 rfl ⟨Nat.le_refl _, Nat.le_refl _⟩
  refine G.tabOut (tgt := 100) d_Reas_holds_16 (sw_out0_6 gs0 gs1 gs2 gs3 gs4 gs5 gs6) (by decide) ?_
  refine G.iconst (v := 0) (pc' := 101) d_Reas_holds_100 rfl kI_0 ?_
  exact G.zretK (by decide) d_Reas_holds_101 rfl ⟨Nat.le_refl _, Nat.le_refl _⟩
theorem t_Reas_countOf_5 {R : List AC}  (l1 l2 : Int32) : ∀ (l3 l4 : Int32) (s : Sg), Gd q_Reas_countOf none 5 [some (vr 29), some (vi l1), some (vi l2), some (vi l3), some (vi l4)] [] s R 0 0 (f_Reas_countOf_5 l1 l2 l3 l4 s) := by
  intro l3 l4 s
  unfold f_Reas_countOf_5
  refine G.loop2 (rf := fun l3 l4 => [some (vr 29), some (vi l1), some (vi l2), some (vi l3), some (vi l4)]) ?_ 4096 l3 l4 s
  intro rec5 hrec5 l3 l4 s
  refine G.iload (pc' := 7) d_Reas_countOf_5 rfl rfl ?_
  refine G.sipush (v := 896) (pc' := 10) d_Reas_countOf_7 rfl kS_896 ?_
  refine G.icmp_ge (pc' := 13) (tgt := 33) d_Reas_countOf_10 rfl (by decide) ?_ ?_
  · refine G.iload_n (pc' := 34) d_Reas_countOf_33 rfl rfl ?_
    exact G.iret d_Reas_countOf_34 rfl ⟨Nat.le_refl _, Nat.le_refl _⟩
  · refine G.aload_n (pc' := 14) d_Reas_countOf_13 rfl rfl ?_
    refine G.iload (pc' := 16) d_Reas_countOf_14 rfl rfl ?_
    refine G.iload_n (pc' := 17) d_Reas_countOf_16 rfl rfl ?_
    refine G.iload_n (pc' := 18) d_Reas_countOf_17 rfl rfl ?_
    refine G.callVi (As := [vi l4, vi l1, vi l2]) (n := 3) (i := 29) (ci := 7) (st := []) (t_Reas_holds l4 l1 l2 s _) (pc' := 21) d_Reas_countOf_18 rfl lm_Reas_19 mk_Reas_holds mv_Reas_holds ⟨rfl, rfl⟩ ⟨by decide, by decide⟩ (HX_29 _ _) rfl rfl rfl rfl ⟨Nat.le_refl _, Nat.le_refl _⟩ rfl (fun v1 s1 => ?_)
    refine G.if_eq (pc' := 24) (tgt := 27) d_Reas_countOf_21 rfl (by decide) ?_ ?_
    · refine G.iinc (w := 1) (v := l4 + 1) (ρ' := [some (vr 29), some (vi l1), some (vi l2), some (vi l3), some (vi (l4 + 1))]) (pc' := 30) d_Reas_countOf_27 rfl rfl (by decide) kI_1 rfl rfl ?_
      refine G.goto (tgt := 5) d_Reas_countOf_30 (by decide) ?_
      exact hrec5 l3 (l4 + 1) s1
    · refine G.iinc (w := 1) (v := l3 + 1) (ρ' := [some (vr 29), some (vi l1), some (vi l2), some (vi (l3 + 1)), some (vi l4)]) (pc' := 27) d_Reas_countOf_24 rfl rfl (by decide) kI_1 rfl rfl ?_
      refine G.iinc (w := 1) (v := l4 + 1) (ρ' := [some (vr 29), some (vi l1), some (vi l2), some (vi (l3 + 1)), some (vi (l4 + 1))]) (pc' := 30) d_Reas_countOf_27 rfl rfl (by decide) kI_1 rfl rfl ?_
      refine G.goto (tgt := 5) d_Reas_countOf_30 (by decide) ?_
      exact hrec5 (l3 + 1) (l4 + 1) s1
theorem t_Reas_countOf (l1 l2 : Int32) (s : Sg) (R : List AC) : Ct q_Reas_countOf [vr 29, vi l1, vi l2] s R (f_Reas_countOf l1 l2 s) := by
  refine Ct.of (by decide) rfl (ρ := [some (vr 29), some (vi l1), some (vi l2), none, none]) rfl ?_
  unfold f_Reas_countOf
  refine G.iconst (v := 0) (pc' := 1) d_Reas_countOf_0 rfl kI_0 ?_
  refine G.istore_n (ρ' := [some (vr 29), some (vi l1), some (vi l2), some (vi 0), none]) (pc' := 2) d_Reas_countOf_1 rfl (by decide) rfl ?_
  refine G.iconst (v := 0) (pc' := 3) d_Reas_countOf_2 rfl kI_0 ?_
  refine G.istore (ρ' := [some (vr 29), some (vi l1), some (vi l2), some (vi 0), some (vi 0)]) (pc' := 5) d_Reas_countOf_3 rfl (by decide) rfl ?_
  exact t_Reas_countOf_5 l1 l2 0 0 s
theorem t_Reas_find_6 {R : List AC}  (l1 l2 : Int32) : ∀ (l4 l5 : Int32) (s : Sg), Gd q_Reas_find none 6 [some (vr 29), some (vi l1), some (vi l2), none, some (vi l4), some (vi l5)] [] s R 0 0 (f_Reas_find_6 l1 l2 l4 l5 s) := by
  intro l4 l5 s
  unfold f_Reas_find_6
  refine G.loop2 (rf := fun l4 l5 => [some (vr 29), some (vi l1), some (vi l2), none, some (vi l4), some (vi l5)]) ?_ 4096 l4 l5 s
  intro rec6 hrec6 l4 l5 s
  refine G.iload (pc' := 8) d_Reas_find_6 rfl rfl ?_
  refine G.sipush (v := 896) (pc' := 11) d_Reas_find_8 rfl kS_896 ?_
  refine G.icmp_ge (pc' := 14) (tgt := 47) d_Reas_find_11 rfl (by decide) ?_ ?_
  · refine G.iconst (v := (-1)) (pc' := 48) d_Reas_find_47 rfl kI_m1 ?_
    exact G.iret d_Reas_find_48 rfl ⟨Nat.le_refl _, Nat.le_refl _⟩
  · refine G.iload (pc' := 16) d_Reas_find_14 rfl rfl ?_
    refine G.if_lt (pc' := 19) (tgt := 47) d_Reas_find_16 rfl (by decide) ?_ ?_
    · refine G.iconst (v := (-1)) (pc' := 48) d_Reas_find_47 rfl kI_m1 ?_
      exact G.iret d_Reas_find_48 rfl ⟨Nat.le_refl _, Nat.le_refl _⟩
    · refine G.aload_n (pc' := 20) d_Reas_find_19 rfl rfl ?_
      refine G.iload (pc' := 22) d_Reas_find_20 rfl rfl ?_
      refine G.iload_n (pc' := 23) d_Reas_find_22 rfl rfl ?_
      refine G.iload_n (pc' := 24) d_Reas_find_23 rfl rfl ?_
      refine G.callVi (As := [vi l5, vi l1, vi l2]) (n := 3) (i := 29) (ci := 7) (st := []) (t_Reas_holds l5 l1 l2 s _) (pc' := 27) d_Reas_find_24 rfl lm_Reas_19 mk_Reas_holds mv_Reas_holds ⟨rfl, rfl⟩ ⟨by decide, by decide⟩ (HX_29 _ _) rfl rfl rfl rfl ⟨Nat.le_refl _, Nat.le_refl _⟩ rfl (fun v1 s1 => ?_)
      refine G.if_eq (pc' := 30) (tgt := 41) d_Reas_find_27 rfl (by decide) ?_ ?_
      · refine G.iinc (w := 1) (v := l5 + 1) (ρ' := [some (vr 29), some (vi l1), some (vi l2), none, some (vi l4), some (vi (l5 + 1))]) (pc' := 44) d_Reas_find_41 rfl rfl (by decide) kI_1 rfl rfl ?_
        refine G.goto (tgt := 6) d_Reas_find_44 (by decide) ?_
        exact hrec6 l4 (l5 + 1) s1
      · refine G.iload (pc' := 32) d_Reas_find_30 rfl rfl ?_
        refine G.if_ne (pc' := 35) (tgt := 38) d_Reas_find_32 rfl (by decide) ?_ ?_
        · refine G.iload (pc' := 37) d_Reas_find_35 rfl rfl ?_
          exact G.iret d_Reas_find_37 rfl ⟨Nat.le_refl _, Nat.le_refl _⟩
        · refine G.iinc (w := (-1)) (v := l4 + (-1)) (ρ' := [some (vr 29), some (vi l1), some (vi l2), none, some (vi (l4 + (-1))), some (vi l5)]) (pc' := 41) d_Reas_find_38 rfl rfl (by decide) kI_m1 rfl rfl ?_
          refine G.iinc (w := 1) (v := l5 + 1) (ρ' := [some (vr 29), some (vi l1), some (vi l2), none, some (vi (l4 + (-1))), some (vi (l5 + 1))]) (pc' := 44) d_Reas_find_41 rfl rfl (by decide) kI_1 rfl rfl ?_
          refine G.goto (tgt := 6) d_Reas_find_44 (by decide) ?_
          exact hrec6 (l4 + (-1)) (l5 + 1) s1
theorem t_Reas_find (l1 l2 l3 : Int32) (s : Sg) (R : List AC) : Ct q_Reas_find [vr 29, vi l1, vi l2, vi l3] s R (f_Reas_find l1 l2 l3 s) := by
  refine Ct.of (by decide) rfl (ρ := [some (vr 29), some (vi l1), some (vi l2), some (vi l3), none, none]) rfl ?_
  unfold f_Reas_find
  refine G.iload_n (pc' := 1) d_Reas_find_0 rfl rfl ?_
  refine G.istore (ρ' := [some (vr 29), some (vi l1), some (vi l2), some (vi l3), some (vi l3), none]) (pc' := 3) d_Reas_find_1 rfl (by decide) rfl ?_
  refine G.iconst (v := 0) (pc' := 4) d_Reas_find_3 rfl kI_0 ?_
  refine G.istore (ρ' := [some (vr 29), some (vi l1), some (vi l2), some (vi l3), some (vi l3), some (vi 0)]) (pc' := 6) d_Reas_find_4 rfl (by decide) rfl ?_
  refine G.mask [true, true, true, false, true, true] (ρ' := [some (vr 29), some (vi l1), some (vi l2), none, some (vi l3), some (vi 0)]) rfl ?_
  exact t_Reas_find_6 l1 l2 l3 0 s
