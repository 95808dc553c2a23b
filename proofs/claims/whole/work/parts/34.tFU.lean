theorem t_FU_pack (l1 : Int32) (s : Sg) (R : List AC) : Ct q_FU_pack [vr 0, vi l1] s R (f_FU_pack l1 s) := by
  refine Ct.of (by decide) rfl (ρ := [some (vr 0), some (vi l1)]) rfl ?_
  unfold f_FU_pack
  refine G.aload_n (pc' := 1) d_FU_pack_0 rfl rfl ?_
  refine G.get (pc' := 4) d_FU_pack_1 rfl fg_FU_12 (HX_0 _ _) rfl ?_
  refine G.get (pc' := 7) d_FU_pack_4 rfl fg_FU_79 (HX_1 _ _) rfl ?_
  refine G.bipush (v := 10) (pc' := 9) d_FU_pack_7 rfl kB_10 ?_
  refine G.icmp_lt (pc' := 12) (tgt := 14) d_FU_pack_9 rfl (by decide) ?_ ?_
  · refine G.aload_n (pc' := 15) d_FU_pack_14 rfl rfl ?_
    refine G.iconst (v := 0) (pc' := 16) d_FU_pack_15 rfl kI_0 ?_
    refine G.put (s' := wr s 0 10 0) (pc' := 19) d_FU_pack_16 rfl fp_FU_75 (Or.inl rfl) (HX_0 _ _) rfl (HXf_0_10 _ _ _) ?_
    refine G.aload_n (pc' := 20) d_FU_pack_19 rfl rfl ?_
    refine G.get (pc' := 23) d_FU_pack_20 rfl fg_FU_12 (HX_0 _ _) rfl ?_
    refine G.iload_n (pc' := 24) d_FU_pack_23 rfl rfl ?_
    refine G.callVi (As := [vi l1]) (n := 1) (i := 1) (ci := 1) (st := []) (t_Packs_add l1 (wr s 0 10 0) _) (pc' := 27) d_FU_pack_24 rfl lm_FU_82 mk_Packs_add mv_Packs_add ⟨rfl, rfl⟩ ⟨by decide, by decide⟩ (HX_1 _ _) rfl rfl rfl rfl ⟨Nat.le_refl _, Nat.le_refl _⟩ rfl (fun v1 s1 => ?_)
    exact G.iret d_FU_pack_27 rfl ⟨Nat.le_refl _, Nat.le_refl _⟩
  · refine G.iconst (v := (-1)) (pc' := 13) d_FU_pack_12 rfl kI_m1 ?_
    exact G.iret d_FU_pack_13 rfl ⟨Nat.le_refl _, Nat.le_refl _⟩
theorem t_FU_feature (l1 l2 l3 l4 : Int32) (s : Sg) (R : List AC) : Ct q_FU_feature [vr 0, vi l1, vi l2, vi l3, vi l4] s R (f_FU_feature l1 l2 l3 l4 s) := by
  refine Ct.of (by decide) rfl (ρ := [some (vr 0), some (vi l1), some (vi l2), some (vi l3), some (vi l4)]) rfl ?_
  unfold f_FU_feature
  refine G.aload_n (pc' := 1) d_FU_feature_0 rfl rfl ?_
  refine G.get (pc' := 4) d_FU_feature_1 rfl fg_FU_12 (HX_0 _ _) rfl ?_
  refine G.iload_n (pc' := 5) d_FU_feature_4 rfl rfl ?_
  refine G.callVi (As := [vi l1]) (n := 1) (i := 1) (ci := 1) (st := []) (t_Packs_has l1 s _) (pc' := 8) d_FU_feature_5 rfl lm_FU_86 mk_Packs_has mv_Packs_has ⟨rfl, rfl⟩ ⟨by decide, by decide⟩ (HX_1 _ _) rfl rfl rfl rfl ⟨Nat.le_refl _, Nat.le_refl _⟩ rfl (fun v1 s1 => ?_)
  refine G.if_eq (pc' := 11) (tgt := 30) d_FU_feature_8 rfl (by decide) ?_ ?_
  · refine G.iconst (v := (-1)) (pc' := 31) d_FU_feature_30 rfl kI_m1 ?_
    exact G.iret d_FU_feature_31 rfl ⟨Nat.le_refl _, Nat.le_refl _⟩
  · refine G.iload_n (pc' := 12) d_FU_feature_11 rfl rfl ?_
    refine G.bipush (v := 32) (pc' := 14) d_FU_feature_12 rfl kB_32 ?_
    refine G.callSi (As := [vi l2, vi 32]) (n := 2) (st := []) (t_FU_within l2 32 s1 _) (pc' := 17) d_FU_feature_14 rfl lm_FU_90 mk_FU_within sx_FU_within ⟨rfl, rfl⟩ ⟨by decide, by decide⟩ rfl rfl rfl ⟨Nat.le_refl _, Nat.le_refl _⟩ rfl (fun v2 s2 => ?_)
    refine G.if_eq (pc' := 20) (tgt := 30) d_FU_feature_17 rfl (by decide) ?_ ?_
    · refine G.iconst (v := (-1)) (pc' := 31) d_FU_feature_30 rfl kI_m1 ?_
      exact G.iret d_FU_feature_31 rfl ⟨Nat.le_refl _, Nat.le_refl _⟩
    · refine G.iload (pc' := 22) d_FU_feature_20 rfl rfl ?_
      refine G.bipush (v := 8) (pc' := 24) d_FU_feature_22 rfl kB_8 ?_
      refine G.callSi (As := [vi l4, vi 8]) (n := 2) (st := []) (t_FU_within l4 8 s2 _) (pc' := 27) d_FU_feature_24 rfl lm_FU_90 mk_FU_within sx_FU_within ⟨rfl, rfl⟩ ⟨by decide, by decide⟩ rfl rfl rfl ⟨Nat.le_refl _, Nat.le_refl _⟩ rfl (fun v3 s3 => ?_)
      refine G.if_ne (pc' := 30) (tgt := 32) d_FU_feature_27 rfl (by decide) ?_ ?_
      · refine G.iconst (v := (-1)) (pc' := 31) d_FU_feature_30 rfl kI_m1 ?_
        exact G.iret d_FU_feature_31 rfl ⟨Nat.le_refl _, Nat.le_refl _⟩
      · refine G.aload_n (pc' := 33) d_FU_feature_32 rfl rfl ?_
        refine G.get (pc' := 36) d_FU_feature_33 rfl fg_FU_19 (HX_0 _ _) rfl ?_
        refine G.iload_n (pc' := 37) d_FU_feature_36 rfl rfl ?_
        refine G.iload_n (pc' := 38) d_FU_feature_37 rfl rfl ?_
        refine G.callVi (As := [vi l1, vi l2]) (n := 2) (i := 3) (ci := 2) (st := []) (t_Feats_find l1 l2 s3 _) (pc' := 41) d_FU_feature_38 rfl lm_FU_94 mk_Feats_find mv_Feats_find ⟨rfl, rfl⟩ ⟨by decide, by decide⟩ (HX_3 _ _) rfl rfl rfl rfl ⟨Nat.le_refl _, Nat.le_refl _⟩ rfl (fun v4 s4 => ?_)
        refine G.iconst (v := (-1)) (pc' := 42) d_FU_feature_41 rfl kI_m1 ?_
        refine G.icmp_ne (pc' := 45) (tgt := 70) d_FU_feature_42 rfl (by decide) ?_ ?_
        · refine G.aload_n (pc' := 46) d_FU_feature_45 rfl rfl ?_
          refine G.get (pc' := 49) d_FU_feature_46 rfl fg_FU_19 (HX_0 _ _) rfl ?_
          refine G.iload_n (pc' := 50) d_FU_feature_49 rfl rfl ?_
          refine G.callVi (As := [vi l1]) (n := 1) (i := 3) (ci := 2) (st := []) (t_Feats_countOf l1 s4 _) (pc' := 53) d_FU_feature_50 rfl lm_FU_98 mk_Feats_countOf mv_Feats_countOf ⟨rfl, rfl⟩ ⟨by decide, by decide⟩ (HX_3 _ _) rfl rfl rfl rfl ⟨Nat.le_refl _, Nat.le_refl _⟩ rfl (fun v5 s5 => ?_)
          refine G.bipush (v := 10) (pc' := 55) d_FU_feature_53 rfl kB_10 ?_
          refine G.icmp_ge (pc' := 58) (tgt := 70) d_FU_feature_55 rfl (by decide) ?_ ?_
          · refine G.iconst (v := (-1)) (pc' := 71) d_FU_feature_70 rfl kI_m1 ?_
            exact G.iret d_FU_feature_71 rfl ⟨Nat.le_refl _, Nat.le_refl _⟩
          · refine G.aload_n (pc' := 59) d_FU_feature_58 rfl rfl ?_
            refine G.get (pc' := 62) d_FU_feature_59 rfl fg_FU_19 (HX_0 _ _) rfl ?_
            refine G.get (pc' := 65) d_FU_feature_62 rfl fg_FU_102 (HX_3 _ _) rfl ?_
            refine G.bipush (v := 60) (pc' := 67) d_FU_feature_65 rfl kB_60 ?_
            refine G.icmp_lt (pc' := 70) (tgt := 72) d_FU_feature_67 rfl (by decide) ?_ ?_
            · refine G.aload_n (pc' := 73) d_FU_feature_72 rfl rfl ?_
              refine G.iconst (v := 0) (pc' := 74) d_FU_feature_73 rfl kI_0 ?_
              refine G.put (s' := wr s5 0 10 0) (pc' := 77) d_FU_feature_74 rfl fp_FU_75 (Or.inl rfl) (HX_0 _ _) rfl (HXf_0_10 _ _ _) ?_
              refine G.aload_n (pc' := 78) d_FU_feature_77 rfl rfl ?_
              refine G.get (pc' := 81) d_FU_feature_78 rfl fg_FU_19 (HX_0 _ _) rfl ?_
              refine G.iload_n (pc' := 82) d_FU_feature_81 rfl rfl ?_
              refine G.iload_n (pc' := 83) d_FU_feature_82 rfl rfl ?_
              refine G.iload_n (pc' := 84) d_FU_feature_83 rfl rfl ?_
              refine G.iload (pc' := 86) d_FU_feature_84 rfl rfl ?_
              refine G.callVi (As := [vi l1, vi l2, vi l3, vi l4]) (n := 4) (i := 3) (ci := 2) (st := []) (t_Feats_add l1 l2 l3 l4 (wr s5 0 10 0) _) (pc' := 89) d_FU_feature_86 rfl lm_FU_103 mk_Feats_add mv_Feats_add ⟨rfl, rfl⟩ ⟨by decide, by decide⟩ (HX_3 _ _) rfl rfl rfl rfl ⟨Nat.le_refl _, Nat.le_refl _⟩ rfl (fun v6 s6 => ?_)
              exact G.iret d_FU_feature_89 rfl ⟨Nat.le_refl _, Nat.le_refl _⟩
            · refine G.iconst (v := (-1)) (pc' := 71) d_FU_feature_70 rfl kI_m1 ?_
              exact G.iret d_FU_feature_71 rfl ⟨Nat.le_refl _, Nat.le_refl _⟩
        · refine G.iconst (v := (-1)) (pc' := 71) d_FU_feature_70 rfl kI_m1 ?_
          exact G.iret d_FU_feature_71 rfl ⟨Nat.le_refl _, Nat.le_refl _⟩
theorem t_FU_root (l1 l2 : Int32) (s : Sg) (R : List AC) : Ct q_FU_root [vr 0, vi l1, vi l2] s R (f_FU_root l1 l2 s) := by
  refine Ct.of (by decide) rfl (ρ := [some (vr 0), some (vi l1), some (vi l2)]) rfl ?_
  unfold f_FU_root
  refine G.aload_n (pc' := 1) d_FU_root_0 rfl rfl ?_
  refine G.get (pc' := 4) d_FU_root_1 rfl fg_FU_12 (HX_0 _ _) rfl ?_
  refine G.iload_n (pc' := 5) d_FU_root_4 rfl rfl ?_
  refine G.callVi (As := [vi l1]) (n := 1) (i := 1) (ci := 1) (st := []) (t_Packs_has l1 s _) (pc' := 8) d_FU_root_5 rfl lm_FU_86 mk_Packs_has mv_Packs_has ⟨rfl, rfl⟩ ⟨by decide, by decide⟩ (HX_1 _ _) rfl rfl rfl rfl ⟨Nat.le_refl _, Nat.le_refl _⟩ rfl (fun v1 s1 => ?_)
  refine G.if_eq (pc' := 11) (tgt := 25) d_FU_root_8 rfl (by decide) ?_ ?_
  · refine G.iconst (v := 0) (pc' := 26) d_FU_root_25 rfl kI_0 ?_
    exact G.zretK (by decide) d_FU_root_26 rfl ⟨Nat.le_refl _, Nat.le_refl _⟩
  · refine G.aload_n (pc' := 12) d_FU_root_11 rfl rfl ?_
    refine G.get (pc' := 15) d_FU_root_12 rfl fg_FU_12 (HX_0 _ _) rfl ?_
    refine G.get (pc' := 18) d_FU_root_15 rfl fg_FU_106 (HX_1 _ _) rfl ?_
    refine G.iload_n (pc' := 19) d_FU_root_18 rfl rfl ?_
    refine G.callSi (As := [vi (s1 1 1), vi l1]) (n := 2) (st := []) (t_FU_bit (s1 1 1) l1 s1 _) (pc' := 22) d_FU_root_19 rfl lm_FU_109 mk_FU_bit sx_FU_bit ⟨rfl, rfl⟩ ⟨by decide, by decide⟩ rfl rfl rfl ⟨Nat.le_refl _, Nat.le_refl _⟩ rfl (fun v2 s2 => ?_)
    refine G.if_eq (pc' := 25) (tgt := 27) d_FU_root_22 rfl (by decide) ?_ ?_
    · refine G.aload_n (pc' := 28) d_FU_root_27 rfl rfl ?_
      refine G.iconst (v := 0) (pc' := 29) d_FU_root_28 rfl kI_0 ?_
      refine G.put (s' := wr s2 0 10 0) (pc' := 32) d_FU_root_29 rfl fp_FU_75 (Or.inl rfl) (HX_0 _ _) rfl (HXf_0_10 _ _ _) ?_
      refine G.aload_n (pc' := 33) d_FU_root_32 rfl rfl ?_
      refine G.get (pc' := 36) d_FU_root_33 rfl fg_FU_12 (HX_0 _ _) rfl ?_
      refine G.iload_n (pc' := 37) d_FU_root_36 rfl rfl ?_
      refine G.iload_n (pc' := 38) d_FU_root_37 rfl rfl ?_
      refine G.callVv (As := [vi l1, vi l2]) (n := 2) (i := 1) (ci := 1) (st := []) (t_Packs_makeRoot l1 l2 (wr s2 0 10 0) _) (pc' := 41) d_FU_root_38 rfl lm_FU_112 mk_Packs_makeRoot mv_Packs_makeRoot ⟨rfl, rfl⟩ ⟨by decide, by decide⟩ (HX_1 _ _) rfl rfl rfl rfl ⟨Nat.le_refl _, Nat.le_refl _⟩ rfl (fun v3 s3 => ?_)
      refine G.iconst (v := 1) (pc' := 42) d_FU_root_41 rfl kI_1 ?_
      exact G.zretK (by decide) d_FU_root_42 rfl ⟨Nat.le_refl _, Nat.le_refl _⟩
    · refine G.iconst (v := 0) (pc' := 26) d_FU_root_25 rfl kI_0 ?_
      exact G.zretK (by decide) d_FU_root_26 rfl ⟨Nat.le_refl _, Nat.le_refl _⟩
theorem t_FU_user (l1 l2 l3 l4 l5 l6 : Int32) (s : Sg) (R : List AC) : Ct q_FU_user [vr 0, vi l1, vi l2, vi l3, vi l4, vi l5, vi l6] s R (f_FU_user l1 l2 l3 l4 l5 l6 s) := by
  refine Ct.of (by decide) rfl (ρ := [some (vr 0), some (vi l1), some (vi l2), some (vi l3), some (vi l4), some (vi l5), some (vi l6)]) rfl ?_
  unfold f_FU_user
  refine G.aload_n (pc' := 1) d_FU_user_0 rfl rfl ?_
  refine G.get (pc' := 4) d_FU_user_1 rfl fg_FU_12 (HX_0 _ _) rfl ?_
  refine G.iload_n (pc' := 5) d_FU_user_4 rfl rfl ?_
  refine G.callVi (As := [vi l1]) (n := 1) (i := 1) (ci := 1) (st := []) (t_Packs_has l1 s _) (pc' := 8) d_FU_user_5 rfl lm_FU_86 mk_Packs_has mv_Packs_has ⟨rfl, rfl⟩ ⟨by decide, by decide⟩ (HX_1 _ _) rfl rfl rfl rfl ⟨Nat.le_refl _, Nat.le_refl _⟩ rfl (fun v1 s1 => ?_)
  refine G.if_eq (pc' := 11) (tgt := 34) d_FU_user_8 rfl (by decide) ?_ ?_
  · refine G.iconst (v := (-1)) (pc' := 35) d_FU_user_34 rfl kI_m1 ?_
    exact G.iret d_FU_user_35 rfl ⟨Nat.le_refl _, Nat.le_refl _⟩
  · refine G.aload_n (pc' := 12) d_FU_user_11 rfl rfl ?_
    refine G.get (pc' := 15) d_FU_user_12 rfl fg_FU_12 (HX_0 _ _) rfl ?_
    refine G.iload_n (pc' := 16) d_FU_user_15 rfl rfl ?_
    refine G.callVi (As := [vi l2]) (n := 1) (i := 1) (ci := 1) (st := []) (t_Packs_has l2 s1 _) (pc' := 19) d_FU_user_16 rfl lm_FU_86 mk_Packs_has mv_Packs_has ⟨rfl, rfl⟩ ⟨by decide, by decide⟩ (HX_1 _ _) rfl rfl rfl rfl ⟨Nat.le_refl _, Nat.le_refl _⟩ rfl (fun v2 s2 => ?_)
    refine G.if_eq (pc' := 22) (tgt := 34) d_FU_user_19 rfl (by decide) ?_ ?_
    · refine G.iconst (v := (-1)) (pc' := 35) d_FU_user_34 rfl kI_m1 ?_
      exact G.iret d_FU_user_35 rfl ⟨Nat.le_refl _, Nat.le_refl _⟩
    · refine G.aload_n (pc' := 23) d_FU_user_22 rfl rfl ?_
      refine G.get (pc' := 26) d_FU_user_23 rfl fg_FU_26 (HX_0 _ _) rfl ?_
      refine G.get (pc' := 29) d_FU_user_26 rfl fg_FU_116 (HX_8 _ _) rfl ?_
      refine G.bipush (v := 40) (pc' := 31) d_FU_user_29 rfl kB_40 ?_
      refine G.icmp_lt (pc' := 34) (tgt := 36) d_FU_user_31 rfl (by decide) ?_ ?_
      · refine G.aload_n (pc' := 37) d_FU_user_36 rfl rfl ?_
        refine G.iconst (v := 0) (pc' := 38) d_FU_user_37 rfl kI_0 ?_
        refine G.put (s' := wr s2 0 10 0) (pc' := 41) d_FU_user_38 rfl fp_FU_75 (Or.inl rfl) (HX_0 _ _) rfl (HXf_0_10 _ _ _) ?_
        refine G.aload_n (pc' := 42) d_FU_user_41 rfl rfl ?_
        refine G.get (pc' := 45) d_FU_user_42 rfl fg_FU_26 (HX_0 _ _) rfl ?_
        refine G.iload_n (pc' := 46) d_FU_user_45 rfl rfl ?_
        refine G.iload_n (pc' := 47) d_FU_user_46 rfl rfl ?_
        refine G.iload_n (pc' := 48) d_FU_user_47 rfl rfl ?_
        refine G.iload (pc' := 50) d_FU_user_48 rfl rfl ?_
        refine G.iload (pc' := 52) d_FU_user_50 rfl rfl ?_
        refine G.iload (pc' := 54) d_FU_user_52 rfl rfl ?_
        refine G.callVi (As := [vi l1, vi l2, vi l3, vi l4, vi l5, vi l6]) (n := 6) (i := 8) (ci := 3) (st := []) (t_Users_add l1 l2 l3 l4 l5 l6 (wr s2 0 10 0) _) (pc' := 57) d_FU_user_54 rfl lm_FU_117 mk_Users_add mv_Users_add ⟨rfl, rfl⟩ ⟨by decide, by decide⟩ (HX_8 _ _) rfl rfl rfl rfl ⟨Nat.le_refl _, Nat.le_refl _⟩ rfl (fun v3 s3 => ?_)
        exact G.iret d_FU_user_57 rfl ⟨Nat.le_refl _, Nat.le_refl _⟩
      · refine G.iconst (v := (-1)) (pc' := 35) d_FU_user_34 rfl kI_m1 ?_
        exact G.iret d_FU_user_35 rfl ⟨Nat.le_refl _, Nat.le_refl _⟩
theorem t_FU_asks (l1 l2 : Int32) (s : Sg) (R : List AC) : Ct q_FU_asks [vr 0, vi l1, vi l2] s R (f_FU_asks l1 l2 s) := by
  refine Ct.of (by decide) rfl (ρ := [some (vr 0), some (vi l1), some (vi l2)]) rfl ?_
  unfold f_FU_asks
  refine G.aload_n (pc' := 1) d_FU_asks_0 rfl rfl ?_
  refine G.get (pc' := 4) d_FU_asks_1 rfl fg_FU_26 (HX_0 _ _) rfl ?_
  refine G.iload_n (pc' := 5) d_FU_asks_4 rfl rfl ?_
  refine G.callVi (As := [vi l1]) (n := 1) (i := 8) (ci := 3) (st := []) (t_Users_has l1 s _) (pc' := 8) d_FU_asks_5 rfl lm_FU_120 mk_Users_has mv_Users_has ⟨rfl, rfl⟩ ⟨by decide, by decide⟩ (HX_8 _ _) rfl rfl rfl rfl ⟨Nat.le_refl _, Nat.le_refl _⟩ rfl (fun v1 s1 => ?_)
  refine G.if_ne (pc' := 11) (tgt := 13) d_FU_asks_8 rfl (by decide) ?_ ?_
  · refine G.iconst (v := (-1)) (pc' := 12) d_FU_asks_11 rfl kI_m1 ?_
    exact G.iret d_FU_asks_12 rfl ⟨Nat.le_refl _, Nat.le_refl _⟩
  · refine G.aload_n (pc' := 14) d_FU_asks_13 rfl rfl ?_
    refine G.get (pc' := 17) d_FU_asks_14 rfl fg_FU_19 (HX_0 _ _) rfl ?_
    refine G.aload_n (pc' := 18) d_FU_asks_17 rfl rfl ?_
    refine G.get (pc' := 21) d_FU_asks_18 rfl fg_FU_26 (HX_0 _ _) rfl ?_
    refine G.get (pc' := 24) d_FU_asks_21 rfl fg_FU_121 (HX_8 _ _) rfl ?_
    refine G.iload_n (pc' := 25) d_FU_asks_24 rfl rfl ?_
    refine G.iald (pc' := 26) d_FU_asks_25 rfl (HX_10 _ _) ?_
    refine G.iload_n (pc' := 27) d_FU_asks_26 rfl rfl ?_
    refine G.callVi (As := [vi (s1 10 (ix l1)), vi l2]) (n := 2) (i := 3) (ci := 2) (st := []) (t_Feats_find (s1 10 (ix l1)) l2 s1 _) (pc' := 30) d_FU_asks_27 rfl lm_FU_94 mk_Feats_find mv_Feats_find ⟨rfl, rfl⟩ ⟨by decide, by decide⟩ (HX_3 _ _) rfl rfl rfl rfl ⟨Nat.le_refl _, Nat.le_refl _⟩ rfl (fun v2 s2 => ?_)
    refine G.iconst (v := (-1)) (pc' := 31) d_FU_asks_30 rfl kI_m1 ?_
    refine G.icmp_ne (pc' := 34) (tgt := 37) d_FU_asks_31 rfl (by decide) ?_ ?_
    · refine G.bipush (v := (-2)) (pc' := 36) d_FU_asks_34 rfl kB_m2 ?_
      exact G.iret d_FU_asks_36 rfl ⟨Nat.le_refl _, Nat.le_refl _⟩
    · refine G.aload_n (pc' := 38) d_FU_asks_37 rfl rfl ?_
      refine G.get (pc' := 41) d_FU_asks_38 rfl fg_FU_26 (HX_0 _ _) rfl ?_
      refine G.get (pc' := 44) d_FU_asks_41 rfl fg_FU_124 (HX_8 _ _) rfl ?_
      refine G.iload_n (pc' := 45) d_FU_asks_44 rfl rfl ?_
      refine G.iald (pc' := 46) d_FU_asks_45 rfl (HX_12 _ _) ?_
      refine G.iload_n (pc' := 47) d_FU_asks_46 rfl rfl ?_
      refine G.callSi (As := [vi (s2 12 (ix l1)), vi l2]) (n := 2) (st := []) (t_FU_bit (s2 12 (ix l1)) l2 s2 _) (pc' := 50) d_FU_asks_47 rfl lm_FU_109 mk_FU_bit sx_FU_bit ⟨rfl, rfl⟩ ⟨by decide, by decide⟩ rfl rfl rfl ⟨Nat.le_refl _, Nat.le_refl _⟩ rfl (fun v3 s3 => ?_)
      refine G.if_eq (pc' := 53) (tgt := 56) d_FU_asks_50 rfl (by decide) ?_ ?_
      · refine G.aload_n (pc' := 57) d_FU_asks_56 rfl rfl ?_
        refine G.iconst (v := 0) (pc' := 58) d_FU_asks_57 rfl kI_0 ?_
        refine G.put (s' := wr s3 0 10 0) (pc' := 61) d_FU_asks_58 rfl fp_FU_75 (Or.inl rfl) (HX_0 _ _) rfl (HXf_0_10 _ _ _) ?_
        refine G.aload_n (pc' := 62) d_FU_asks_61 rfl rfl ?_
        refine G.get (pc' := 65) d_FU_asks_62 rfl fg_FU_26 (HX_0 _ _) rfl ?_
        refine G.get (pc' := 68) d_FU_asks_65 rfl fg_FU_124 (HX_8 _ _) rfl ?_
        refine G.iload_n (pc' := 69) d_FU_asks_68 rfl rfl ?_
        refine G.dup2 (pc' := 70) d_FU_asks_69 rfl ?_
        refine G.iald (pc' := 71) d_FU_asks_70 rfl (HX_12 _ _) ?_
        refine G.eqv (w := vi (s3 12 (ix l1))) rfl ?_
        refine G.iconst (v := 1) (pc' := 72) d_FU_asks_71 rfl kI_1 ?_
        refine G.iload_n (pc' := 73) d_FU_asks_72 rfl rfl ?_
        refine G.ishl (pc' := 74) d_FU_asks_73 rfl ?_
        refine G.ior (pc' := 75) d_FU_asks_74 rfl ?_
        refine G.iast (s' := wr (wr s3 0 10 0) 12 (ix l1) ((s3 12 (ix l1)) ||| (1 <<< (l2 &&& 31)))) (pc' := 76) d_FU_asks_75 rfl (HX_12 _ _) (HXa_12 _ _ _ _) ?_
        refine G.iconst (v := 1) (pc' := 77) d_FU_asks_76 rfl kI_1 ?_
        exact G.iret d_FU_asks_77 rfl ⟨Nat.le_refl _, Nat.le_refl _⟩
      · refine G.bipush (v := (-3)) (pc' := 55) d_FU_asks_53 rfl kB_m3 ?_
        exact G.iret d_FU_asks_55 rfl ⟨Nat.le_refl _, Nat.le_refl _⟩
theorem t_FU_turn_158 {R : List AC}  (l1 l2 l6 l7 : Int32) (s : Sg) : Gd q_FU_turn none 158 [some (vr 0), some (vi l1), some (vi l2), none, none, none, some (vi l6), some (vi l7)] [] s R 0 0 (f_FU_turn_158 l1 l2 l6 l7 s) := by
  unfold f_FU_turn_158
  refine G.aload_n (pc' := 159) d_FU_turn_158 rfl rfl ?_
  refine G.iconst (v := 0) (pc' := 160) d_FU_turn_159 rfl kI_0 ?_
  refine G.put (s' := wr s 0 10 0) (pc' := 163) d_FU_turn_160 rfl fp_FU_75 (Or.inl rfl) (HX_0 _ _) rfl (HXf_0_10 _ _ _) ?_
  refine G.aload_n (pc' := 164) d_FU_turn_163 rfl rfl ?_
  refine G.get (pc' := 167) d_FU_turn_164 rfl fg_FU_33 (HX_0 _ _) rfl ?_
  refine G.iload_n (pc' := 168) d_FU_turn_167 rfl rfl ?_
  refine G.iload_n (pc' := 169) d_FU_turn_168 rfl rfl ?_
  refine G.iload (pc' := 171) d_FU_turn_169 rfl rfl ?_
  refine G.iload (pc' := 173) d_FU_turn_171 rfl rfl ?_
  refine G.callVi (As := [vi l1, vi l2, vi l6, vi l7]) (n := 4) (i := 16) (ci := 4) (st := []) (t_Turns_add l1 l2 l6 l7 (wr s 0 10 0) _) (pc' := 176) d_FU_turn_173 rfl lm_FU_139 mk_Turns_add mv_Turns_add ⟨rfl, rfl⟩ ⟨by decide, by decide⟩ (HX_16 _ _) rfl rfl rfl rfl ⟨Nat.le_refl _, Nat.le_refl _⟩ rfl (fun v1 s1 => ?_)
  exact G.iret d_FU_turn_176 rfl ⟨Nat.le_refl _, Nat.le_refl _⟩
theorem t_FU_turn_133 {R : List AC}  (l1 l2 l4 l6 : Int32) (t0 : Int32) (s : Sg) : Gd q_FU_turn none 133 [some (vr 0), some (vi l1), some (vi l2), none, some (vi l4), none, some (vi l6), none] [vi t0, vr 3] s R 0 0 (f_FU_turn_133 l1 l2 l4 l6 t0 s) := by
  unfold f_FU_turn_133
  refine G.iload (pc' := 135) d_FU_turn_133 rfl rfl ?_
  refine G.callVi (As := [vi t0, vi l4]) (n := 2) (i := 3) (ci := 2) (st := []) (t_Feats_find t0 l4 s _) (pc' := 138) d_FU_turn_135 rfl lm_FU_94 mk_Feats_find mv_Feats_find ⟨rfl, rfl⟩ ⟨by decide, by decide⟩ (HX_3 _ _) rfl rfl rfl rfl ⟨Nat.le_refl _, Nat.le_refl _⟩ rfl (fun v1 s1 => ?_)
  refine G.istore (ρ' := [some (vr 0), some (vi l1), some (vi l2), none, some (vi l4), none, some (vi l6), some (vi v1)]) (pc' := 140) d_FU_turn_138 rfl (by decide) rfl ?_
  refine G.iload (pc' := 142) d_FU_turn_140 rfl rfl ?_
  refine G.iconst (v := (-1)) (pc' := 143) d_FU_turn_142 rfl kI_m1 ?_
  refine G.icmp_eq (pc' := 146) (tgt := 156) d_FU_turn_143 rfl (by decide) ?_ ?_
  · refine G.iconst (v := (-1)) (pc' := 157) d_FU_turn_156 rfl kI_m1 ?_
    exact G.iret d_FU_turn_157 rfl ⟨Nat.le_refl _, Nat.le_refl _⟩
  · refine G.iload_n (pc' := 147) d_FU_turn_146 rfl rfl ?_
    refine G.if_ne (pc' := 150) (tgt := 158) d_FU_turn_147 rfl (by decide) ?_ ?_
    · refine G.iload (pc' := 152) d_FU_turn_150 rfl rfl ?_
      refine G.iload_n (pc' := 153) d_FU_turn_152 rfl rfl ?_
      refine G.icmp_ne (pc' := 156) (tgt := 158) d_FU_turn_153 rfl (by decide) ?_ ?_
      · refine G.iconst (v := (-1)) (pc' := 157) d_FU_turn_156 rfl kI_m1 ?_
        exact G.iret d_FU_turn_157 rfl ⟨Nat.le_refl _, Nat.le_refl _⟩
      · refine G.mask [true, true, true, false, false, false, true, true] (ρ' := [some (vr 0), some (vi l1), some (vi l2), none, none, none, some (vi l6), some (vi v1)]) rfl ?_
        exact t_FU_turn_158 l1 l2 l6 v1 s1
    · refine G.mask [true, true, true, false, false, false, true, true] (ρ' := [some (vr 0), some (vi l1), some (vi l2), none, none, none, some (vi l6), some (vi v1)]) rfl ?_
      exact t_FU_turn_158 l1 l2 l6 v1 s1
theorem t_FU_turn_100 {R : List AC}  (l1 l2 l4 l5 l6 : Int32) (s : Sg) : Gd q_FU_turn none 100 [some (vr 0), some (vi l1), some (vi l2), none, some (vi l4), some (vi l5), some (vi l6), none] [] s R 0 0 (f_FU_turn_100 l1 l2 l4 l5 l6 s) := by
  unfold f_FU_turn_100
  refine G.iconst (v := (-1)) (pc' := 101) d_FU_turn_100 rfl kI_m1 ?_
  refine G.istore (ρ' := [some (vr 0), some (vi l1), some (vi l2), none, some (vi l4), some (vi l5), some (vi l6), some (vi (-1))]) (pc' := 103) d_FU_turn_101 rfl (by decide) rfl ?_
  refine G.iload_n (pc' := 104) d_FU_turn_103 rfl rfl ?_
  refine G.iconst (v := 1) (pc' := 105) d_FU_turn_104 rfl kI_1 ?_
  refine G.icmp_eq (pc' := 108) (tgt := 158) d_FU_turn_105 rfl (by decide) ?_ ?_
  · refine G.mask [true, true, true, false, false, false, true, true] (ρ' := [some (vr 0), some (vi l1), some (vi l2), none, none, none, some (vi l6), some (vi (-1))]) rfl ?_
    exact t_FU_turn_158 l1 l2 l6 (-1) s
  · refine G.aload_n (pc' := 109) d_FU_turn_108 rfl rfl ?_
    refine G.get (pc' := 112) d_FU_turn_109 rfl fg_FU_19 (HX_0 _ _) rfl ?_
    refine G.iload (pc' := 114) d_FU_turn_112 rfl rfl ?_
    refine G.iconst (v := (-1)) (pc' := 115) d_FU_turn_114 rfl kI_m1 ?_
    refine G.icmp_ne (pc' := 118) (tgt := 123) d_FU_turn_115 rfl (by decide) ?_ ?_
    · refine G.iload (pc' := 120) d_FU_turn_118 rfl rfl ?_
      refine G.goto (tgt := 133) d_FU_turn_120 (by decide) ?_
      refine G.mask [true, true, true, false, true, false, true, false] (ρ' := [some (vr 0), some (vi l1), some (vi l2), none, some (vi l4), none, some (vi l6), none]) rfl ?_
      exact t_FU_turn_133 l1 l2 l4 l6 l5 s
    · refine G.aload_n (pc' := 124) d_FU_turn_123 rfl rfl ?_
      refine G.get (pc' := 127) d_FU_turn_124 rfl fg_FU_26 (HX_0 _ _) rfl ?_
      refine G.get (pc' := 130) d_FU_turn_127 rfl fg_FU_121 (HX_8 _ _) rfl ?_
      refine G.iload (pc' := 132) d_FU_turn_130 rfl rfl ?_
      refine G.iald (pc' := 133) d_FU_turn_132 rfl (HX_10 _ _) ?_
      refine G.mask [true, true, true, false, true, false, true, false] (ρ' := [some (vr 0), some (vi l1), some (vi l2), none, some (vi l4), none, some (vi l6), none]) rfl ?_
      exact t_FU_turn_133 l1 l2 l4 l6 (s 10 (ix l6)) s
theorem t_FU_turn_97 {R : List AC}  (l1 l2 l3 l4 l5 : Int32) (s : Sg) : Gd q_FU_turn none 97 [some (vr 0), some (vi l1), some (vi l2), some (vi l3), some (vi l4), some (vi l5), none, none] [] s R 0 0 (f_FU_turn_97 l1 l2 l3 l4 l5 s) := by
  unfold f_FU_turn_97
  refine G.iload_n (pc' := 98) d_FU_turn_97 rfl rfl ?_
  refine G.istore (ρ' := [some (vr 0), some (vi l1), some (vi l2), some (vi l3), some (vi l4), some (vi l5), some (vi l3), none]) (pc' := 100) d_FU_turn_98 rfl (by decide) rfl ?_
  refine G.mask [true, true, true, false, true, true, true, false] (ρ' := [some (vr 0), some (vi l1), some (vi l2), none, some (vi l4), some (vi l5), some (vi l3), none]) rfl ?_
  exact t_FU_turn_100 l1 l2 l4 l5 l3 s
theorem t_FU_turn (l1 l2 l3 l4 : Int32) (s : Sg) (R : List AC) : Ct q_FU_turn [vr 0, vi l1, vi l2, vi l3, vi l4] s R (f_FU_turn l1 l2 l3 l4 s) := by
  refine Ct.of (by decide) rfl (ρ := [some (vr 0), some (vi l1), some (vi l2), some (vi l3), some (vi l4), none, none, none]) rfl ?_
  unfold f_FU_turn
  refine G.aload_n (pc' := 1) d_FU_turn_0 rfl rfl ?_
  refine G.get (pc' := 4) d_FU_turn_1 rfl fg_FU_19 (HX_0 _ _) rfl ?_
  refine G.iload_n (pc' := 5) d_FU_turn_4 rfl rfl ?_
  refine G.callVi (As := [vi l1]) (n := 1) (i := 3) (ci := 2) (st := []) (t_Feats_has l1 s _) (pc' := 8) d_FU_turn_5 rfl lm_FU_127 mk_Feats_has mv_Feats_has ⟨rfl, rfl⟩ ⟨by decide, by decide⟩ (HX_3 _ _) rfl rfl rfl rfl ⟨Nat.le_refl _, Nat.le_refl _⟩ rfl (fun v1 s1 => ?_)
  refine G.if_eq (pc' := 11) (tgt := 31) d_FU_turn_8 rfl (by decide) ?_ ?_
  · refine G.iconst (v := (-1)) (pc' := 32) d_FU_turn_31 rfl kI_m1 ?_
    exact G.iret d_FU_turn_32 rfl ⟨Nat.le_refl _, Nat.le_refl _⟩
  · refine G.iload_n (pc' := 12) d_FU_turn_11 rfl rfl ?_
    refine G.iconst (v := 4) (pc' := 13) d_FU_turn_12 rfl kI_4 ?_
    refine G.callSi (As := [vi l2, vi 4]) (n := 2) (st := []) (t_FU_within l2 4 s1 _) (pc' := 16) d_FU_turn_13 rfl lm_FU_90 mk_FU_within sx_FU_within ⟨rfl, rfl⟩ ⟨by decide, by decide⟩ rfl rfl rfl ⟨Nat.le_refl _, Nat.le_refl _⟩ rfl (fun v2 s2 => ?_)
    refine G.if_eq (pc' := 19) (tgt := 31) d_FU_turn_16 rfl (by decide) ?_ ?_
    · refine G.iconst (v := (-1)) (pc' := 32) d_FU_turn_31 rfl kI_m1 ?_
      exact G.iret d_FU_turn_32 rfl ⟨Nat.le_refl _, Nat.le_refl _⟩
    · refine G.aload_n (pc' := 20) d_FU_turn_19 rfl rfl ?_
      refine G.get (pc' := 23) d_FU_turn_20 rfl fg_FU_33 (HX_0 _ _) rfl ?_
      refine G.get (pc' := 26) d_FU_turn_23 rfl fg_FU_128 (HX_16 _ _) rfl ?_
      refine G.bipush (v := 60) (pc' := 28) d_FU_turn_26 rfl kB_60 ?_
      refine G.icmp_lt (pc' := 31) (tgt := 33) d_FU_turn_28 rfl (by decide) ?_ ?_
      · refine G.aload_n (pc' := 34) d_FU_turn_33 rfl rfl ?_
        refine G.get (pc' := 37) d_FU_turn_34 rfl fg_FU_19 (HX_0 _ _) rfl ?_
        refine G.get (pc' := 40) d_FU_turn_37 rfl fg_FU_129 (HX_3 _ _) rfl ?_
        refine G.iload_n (pc' := 41) d_FU_turn_40 rfl rfl ?_
        refine G.iald (pc' := 42) d_FU_turn_41 rfl (HX_4 _ _) ?_
        refine G.istore (ρ' := [some (vr 0), some (vi l1), some (vi l2), some (vi l3), some (vi l4), some (vi (s2 4 (ix l1))), none, none]) (pc' := 44) d_FU_turn_42 rfl (by decide) rfl ?_
        refine G.iconst (v := (-1)) (pc' := 45) d_FU_turn_44 rfl kI_m1 ?_
        refine G.istore (ρ' := [some (vr 0), some (vi l1), some (vi l2), some (vi l3), some (vi l4), some (vi (s2 4 (ix l1))), some (vi (-1)), none]) (pc' := 47) d_FU_turn_45 rfl (by decide) rfl ?_
        refine G.iload_n (pc' := 48) d_FU_turn_47 rfl rfl ?_
        refine G.if_eq (pc' := 51) (tgt := 100) d_FU_turn_48 rfl (by decide) ?_ ?_
        · refine G.mask [true, true, true, false, true, true, true, false] (ρ' := [some (vr 0), some (vi l1), some (vi l2), none, some (vi l4), some (vi (s2 4 (ix l1))), some (vi (-1)), none]) rfl ?_
          exact t_FU_turn_100 l1 l2 l4 (s2 4 (ix l1)) (-1) s2
        · refine G.aload_n (pc' := 52) d_FU_turn_51 rfl rfl ?_
          refine G.get (pc' := 55) d_FU_turn_52 rfl fg_FU_26 (HX_0 _ _) rfl ?_
          refine G.iload_n (pc' := 56) d_FU_turn_55 rfl rfl ?_
          refine G.callVi (As := [vi l3]) (n := 1) (i := 8) (ci := 3) (st := []) (t_Users_has l3 s2 _) (pc' := 59) d_FU_turn_56 rfl lm_FU_120 mk_Users_has mv_Users_has ⟨rfl, rfl⟩ ⟨by decide, by decide⟩ (HX_8 _ _) rfl rfl rfl rfl ⟨Nat.le_refl _, Nat.le_refl _⟩ rfl (fun v3 s3 => ?_)
          refine G.if_eq (pc' := 62) (tgt := 76) d_FU_turn_59 rfl (by decide) ?_ ?_
          · refine G.iconst (v := (-1)) (pc' := 77) d_FU_turn_76 rfl kI_m1 ?_
            exact G.iret d_FU_turn_77 rfl ⟨Nat.le_refl _, Nat.le_refl _⟩
          · refine G.aload_n (pc' := 63) d_FU_turn_62 rfl rfl ?_
            refine G.get (pc' := 66) d_FU_turn_63 rfl fg_FU_26 (HX_0 _ _) rfl ?_
            refine G.get (pc' := 69) d_FU_turn_66 rfl fg_FU_132 (HX_8 _ _) rfl ?_
            refine G.iload_n (pc' := 70) d_FU_turn_69 rfl rfl ?_
            refine G.iald (pc' := 71) d_FU_turn_70 rfl (HX_9 _ _) ?_
            refine G.iload (pc' := 73) d_FU_turn_71 rfl rfl ?_
            refine G.icmp_eq (pc' := 76) (tgt := 78) d_FU_turn_73 rfl (by decide) ?_ ?_
            · refine G.iload_n (pc' := 79) d_FU_turn_78 rfl rfl ?_
              refine G.iconst (v := 1) (pc' := 80) d_FU_turn_79 rfl kI_1 ?_
              refine G.icmp_ne (pc' := 83) (tgt := 97) d_FU_turn_80 rfl (by decide) ?_ ?_
              · refine G.aload_n (pc' := 84) d_FU_turn_83 rfl rfl ?_
                refine G.get (pc' := 87) d_FU_turn_84 rfl fg_FU_26 (HX_0 _ _) rfl ?_
                refine G.get (pc' := 90) d_FU_turn_87 rfl fg_FU_135 (HX_8 _ _) rfl ?_
                refine G.iload_n (pc' := 91) d_FU_turn_90 rfl rfl ?_
                refine G.zald (pc' := 92) d_FU_turn_91 rfl (HX_15 _ _) ?_
                refine G.if_ne (pc' := 95) (tgt := 97) d_FU_turn_92 rfl (by decide) ?_ ?_
                · refine G.iconst (v := (-1)) (pc' := 96) d_FU_turn_95 rfl kI_m1 ?_
                  exact G.iret d_FU_turn_96 rfl ⟨Nat.le_refl _, Nat.le_refl _⟩
                · refine G.mask [true, true, true, true, true, true, false, false] (ρ' := [some (vr 0), some (vi l1), some (vi l2), some (vi l3), some (vi l4), some (vi (s2 4 (ix l1))), none, none]) rfl ?_
                  exact t_FU_turn_97 l1 l2 l3 l4 (s2 4 (ix l1)) s3
              · refine G.mask [true, true, true, true, true, true, false, false] (ρ' := [some (vr 0), some (vi l1), some (vi l2), some (vi l3), some (vi l4), some (vi (s2 4 (ix l1))), none, none]) rfl ?_
                exact t_FU_turn_97 l1 l2 l3 l4 (s2 4 (ix l1)) s3
            · refine G.iconst (v := (-1)) (pc' := 77) d_FU_turn_76 rfl kI_m1 ?_
              exact G.iret d_FU_turn_77 rfl ⟨Nat.le_refl _, Nat.le_refl _⟩
      · refine G.iconst (v := (-1)) (pc' := 32) d_FU_turn_31 rfl kI_m1 ?_
        exact G.iret d_FU_turn_32 rfl ⟨Nat.le_refl _, Nat.le_refl _⟩
theorem t_FU_run (l1 : Int32) (s : Sg) (R : List AC) : Ct q_FU_run [vr 0, vi l1] s R (f_FU_run l1 s) := by
  refine Ct.of (by decide) rfl (ρ := [some (vr 0), some (vi l1)]) rfl ?_
  unfold f_FU_run
  refine G.iload_n (pc' := 1) d_FU_run_0 rfl rfl ?_
  refine G.bipush (v := 8) (pc' := 3) d_FU_run_1 rfl kB_8 ?_
  refine G.callSi (As := [vi l1, vi 8]) (n := 2) (st := []) (t_FU_within l1 8 s _) (pc' := 6) d_FU_run_3 rfl lm_FU_90 mk_FU_within sx_FU_within ⟨rfl, rfl⟩ ⟨by decide, by decide⟩ rfl rfl rfl ⟨Nat.le_refl _, Nat.le_refl _⟩ rfl (fun v1 s1 => ?_)
  refine G.if_ne (pc' := 9) (tgt := 11) d_FU_run_6 rfl (by decide) ?_ ?_
  · refine G.iconst (v := (-1)) (pc' := 10) d_FU_run_9 rfl kI_m1 ?_
    exact G.iret d_FU_run_10 rfl ⟨Nat.le_refl _, Nat.le_refl _⟩
  · refine G.aload_n (pc' := 12) d_FU_run_11 rfl rfl ?_
    refine G.get (pc' := 15) d_FU_run_12 rfl fg_FU_42 (HX_0 _ _) rfl ?_
    refine G.iload_n (pc' := 16) d_FU_run_15 rfl rfl ?_
    refine G.callVv (As := [vi l1]) (n := 1) (i := 21) (ci := 5) (st := []) (t_Snap_take l1 s1 _) (pc' := 19) d_FU_run_16 rfl lm_FU_142 mk_Snap_take mv_Snap_take ⟨rfl, rfl⟩ ⟨by decide, by decide⟩ (HX_21 _ _) rfl rfl rfl rfl ⟨Nat.le_refl _, Nat.le_refl _⟩ rfl (fun v2 s2 => ?_)
    refine G.aload_n (pc' := 20) d_FU_run_19 rfl rfl ?_
    refine G.get (pc' := 23) d_FU_run_20 rfl fg_FU_51 (HX_0 _ _) rfl ?_
    refine G.callVv (As := []) (n := 0) (i := 23) (ci := 6) (st := []) (t_Clo_close_23 s2 _) (pc' := 26) d_FU_run_23 rfl lm_FU_146 mk_Clo_close mv_Clo_close ⟨rfl, rfl⟩ ⟨by decide, by decide⟩ (HX_23 _ _) rfl rfl rfl rfl ⟨Nat.le_refl _, Nat.le_refl _⟩ rfl (fun v3 s3 => ?_)
    refine G.aload_n (pc' := 27) d_FU_run_26 rfl rfl ?_
    refine G.iconst (v := 1) (pc' := 28) d_FU_run_27 rfl kI_1 ?_
    refine G.put (s' := wr s3 0 10 1) (pc' := 31) d_FU_run_28 rfl fp_FU_75 (Or.inr rfl) (HX_0 _ _) rfl (HXf_0_10 _ _ _) ?_
    refine G.aload_n (pc' := 32) d_FU_run_31 rfl rfl ?_
    refine G.get (pc' := 35) d_FU_run_32 rfl fg_FU_51 (HX_0 _ _) rfl ?_
    refine G.callVi (As := []) (n := 0) (i := 23) (ci := 6) (st := []) (t_Clo_greatestStage_23 (wr s3 0 10 1) _) (pc' := 38) d_FU_run_35 rfl lm_FU_149 mk_Clo_greatestStage mv_Clo_greatestStage ⟨rfl, rfl⟩ ⟨by decide, by decide⟩ (HX_23 _ _) rfl rfl rfl rfl ⟨Nat.le_refl _, Nat.le_refl _⟩ rfl (fun v4 s4 => ?_)
    exact G.iret d_FU_run_38 rfl ⟨Nat.le_refl _, Nat.le_refl _⟩
theorem t_FU_there (l1 l2 : Int32) (s : Sg) (R : List AC) : Ct q_FU_there [vr 0, vi l1, vi l2] s R (f_FU_there l1 l2 s) := by
  refine Ct.of (by decide) rfl (ρ := [some (vr 0), some (vi l1), some (vi l2)]) rfl ?_
  unfold f_FU_there
  refine G.aload_n (pc' := 1) d_FU_there_0 rfl rfl ?_
  refine G.get (pc' := 4) d_FU_there_1 rfl fg_FU_12 (HX_0 _ _) rfl ?_
  refine G.iload_n (pc' := 5) d_FU_there_4 rfl rfl ?_
  refine G.callVi (As := [vi l1]) (n := 1) (i := 1) (ci := 1) (st := []) (t_Packs_has l1 s _) (pc' := 8) d_FU_there_5 rfl lm_FU_86 mk_Packs_has mv_Packs_has ⟨rfl, rfl⟩ ⟨by decide, by decide⟩ (HX_1 _ _) rfl rfl rfl rfl ⟨Nat.le_refl _, Nat.le_refl _⟩ rfl (fun v1 s1 => ?_)
  refine G.if_eq (pc' := 11) (tgt := 31) d_FU_there_8 rfl (by decide) ?_ ?_
  · refine G.iconst (v := 0) (pc' := 32) d_FU_there_31 rfl kI_0 ?_
    exact G.iret d_FU_there_32 rfl ⟨Nat.le_refl _, Nat.le_refl _⟩
  · refine G.iload_n (pc' := 12) d_FU_there_11 rfl rfl ?_
    refine G.iconst (v := 2) (pc' := 13) d_FU_there_12 rfl kI_2 ?_
    refine G.callSi (As := [vi l2, vi 2]) (n := 2) (st := []) (t_FU_within l2 2 s1 _) (pc' := 16) d_FU_there_13 rfl lm_FU_90 mk_FU_within sx_FU_within ⟨rfl, rfl⟩ ⟨by decide, by decide⟩ rfl rfl rfl ⟨Nat.le_refl _, Nat.le_refl _⟩ rfl (fun v2 s2 => ?_)
    refine G.if_eq (pc' := 19) (tgt := 31) d_FU_there_16 rfl (by decide) ?_ ?_
    · refine G.iconst (v := 0) (pc' := 32) d_FU_there_31 rfl kI_0 ?_
      exact G.iret d_FU_there_32 rfl ⟨Nat.le_refl _, Nat.le_refl _⟩
    · refine G.aload_n (pc' := 20) d_FU_there_19 rfl rfl ?_
      refine G.get (pc' := 23) d_FU_there_20 rfl fg_FU_51 (HX_0 _ _) rfl ?_
      refine G.iload_n (pc' := 24) d_FU_there_23 rfl rfl ?_
      refine G.iload_n (pc' := 25) d_FU_there_24 rfl rfl ?_
      refine G.callVi (As := [vi l1, vi l2]) (n := 2) (i := 23) (ci := 6) (st := []) (t_Clo_thereStage_23 l1 l2 s2 _) (pc' := 28) d_FU_there_25 rfl lm_FU_153 mk_Clo_thereStage mv_Clo_thereStage ⟨rfl, rfl⟩ ⟨by decide, by decide⟩ (HX_23 _ _) rfl rfl rfl rfl ⟨Nat.le_refl _, Nat.le_refl _⟩ rfl (fun v3 s3 => ?_)
      refine G.goto (tgt := 32) d_FU_there_28 (by decide) ?_
      exact G.iret d_FU_there_32 rfl ⟨Nat.le_refl _, Nat.le_refl _⟩
theorem t_FU_live (l1 l2 : Int32) (s : Sg) (R : List AC) : Ct q_FU_live [vr 0, vi l1, vi l2] s R (f_FU_live l1 l2 s) := by
  refine Ct.of (by decide) rfl (ρ := [some (vr 0), some (vi l1), some (vi l2)]) rfl ?_
  unfold f_FU_live
  refine G.aload_n (pc' := 1) d_FU_live_0 rfl rfl ?_
  refine G.get (pc' := 4) d_FU_live_1 rfl fg_FU_26 (HX_0 _ _) rfl ?_
  refine G.iload_n (pc' := 5) d_FU_live_4 rfl rfl ?_
  refine G.callVi (As := [vi l1]) (n := 1) (i := 8) (ci := 3) (st := []) (t_Users_has l1 s _) (pc' := 8) d_FU_live_5 rfl lm_FU_120 mk_Users_has mv_Users_has ⟨rfl, rfl⟩ ⟨by decide, by decide⟩ (HX_8 _ _) rfl rfl rfl rfl ⟨Nat.le_refl _, Nat.le_refl _⟩ rfl (fun v1 s1 => ?_)
  refine G.if_eq (pc' := 11) (tgt := 31) d_FU_live_8 rfl (by decide) ?_ ?_
  · refine G.iconst (v := 0) (pc' := 32) d_FU_live_31 rfl kI_0 ?_
    exact G.iret d_FU_live_32 rfl ⟨Nat.le_refl _, Nat.le_refl _⟩
  · refine G.iload_n (pc' := 12) d_FU_live_11 rfl rfl ?_
    refine G.iconst (v := 2) (pc' := 13) d_FU_live_12 rfl kI_2 ?_
    refine G.callSi (As := [vi l2, vi 2]) (n := 2) (st := []) (t_FU_within l2 2 s1 _) (pc' := 16) d_FU_live_13 rfl lm_FU_90 mk_FU_within sx_FU_within ⟨rfl, rfl⟩ ⟨by decide, by decide⟩ rfl rfl rfl ⟨Nat.le_refl _, Nat.le_refl _⟩ rfl (fun v2 s2 => ?_)
    refine G.if_eq (pc' := 19) (tgt := 31) d_FU_live_16 rfl (by decide) ?_ ?_
    · refine G.iconst (v := 0) (pc' := 32) d_FU_live_31 rfl kI_0 ?_
      exact G.iret d_FU_live_32 rfl ⟨Nat.le_refl _, Nat.le_refl _⟩
    · refine G.aload_n (pc' := 20) d_FU_live_19 rfl rfl ?_
      refine G.get (pc' := 23) d_FU_live_20 rfl fg_FU_51 (HX_0 _ _) rfl ?_
      refine G.iload_n (pc' := 24) d_FU_live_23 rfl rfl ?_
      refine G.iload_n (pc' := 25) d_FU_live_24 rfl rfl ?_
      refine G.callVi (As := [vi l1, vi l2]) (n := 2) (i := 23) (ci := 6) (st := []) (t_Clo_liveStage_23 l1 l2 s2 _) (pc' := 28) d_FU_live_25 rfl lm_FU_156 mk_Clo_liveStage mv_Clo_liveStage ⟨rfl, rfl⟩ ⟨by decide, by decide⟩ (HX_23 _ _) rfl rfl rfl rfl ⟨Nat.le_refl _, Nat.le_refl _⟩ rfl (fun v3 s3 => ?_)
      refine G.goto (tgt := 32) d_FU_live_28 (by decide) ?_
      exact G.iret d_FU_live_32 rfl ⟨Nat.le_refl _, Nat.le_refl _⟩
theorem t_FU_on (l1 l2 : Int32) (s : Sg) (R : List AC) : Ct q_FU_on [vr 0, vi l1, vi l2] s R (f_FU_on l1 l2 s) := by
  refine Ct.of (by decide) rfl (ρ := [some (vr 0), some (vi l1), some (vi l2)]) rfl ?_
  unfold f_FU_on
  refine G.aload_n (pc' := 1) d_FU_on_0 rfl rfl ?_
  refine G.get (pc' := 4) d_FU_on_1 rfl fg_FU_19 (HX_0 _ _) rfl ?_
  refine G.iload_n (pc' := 5) d_FU_on_4 rfl rfl ?_
  refine G.callVi (As := [vi l1]) (n := 1) (i := 3) (ci := 2) (st := []) (t_Feats_has l1 s _) (pc' := 8) d_FU_on_5 rfl lm_FU_127 mk_Feats_has mv_Feats_has ⟨rfl, rfl⟩ ⟨by decide, by decide⟩ (HX_3 _ _) rfl rfl rfl rfl ⟨Nat.le_refl _, Nat.le_refl _⟩ rfl (fun v1 s1 => ?_)
  refine G.if_eq (pc' := 11) (tgt := 31) d_FU_on_8 rfl (by decide) ?_ ?_
  · refine G.iconst (v := 0) (pc' := 32) d_FU_on_31 rfl kI_0 ?_
    exact G.iret d_FU_on_32 rfl ⟨Nat.le_refl _, Nat.le_refl _⟩
  · refine G.iload_n (pc' := 12) d_FU_on_11 rfl rfl ?_
    refine G.iconst (v := 2) (pc' := 13) d_FU_on_12 rfl kI_2 ?_
    refine G.callSi (As := [vi l2, vi 2]) (n := 2) (st := []) (t_FU_within l2 2 s1 _) (pc' := 16) d_FU_on_13 rfl lm_FU_90 mk_FU_within sx_FU_within ⟨rfl, rfl⟩ ⟨by decide, by decide⟩ rfl rfl rfl ⟨Nat.le_refl _, Nat.le_refl _⟩ rfl (fun v2 s2 => ?_)
    refine G.if_eq (pc' := 19) (tgt := 31) d_FU_on_16 rfl (by decide) ?_ ?_
    · refine G.iconst (v := 0) (pc' := 32) d_FU_on_31 rfl kI_0 ?_
      exact G.iret d_FU_on_32 rfl ⟨Nat.le_refl _, Nat.le_refl _⟩
    · refine G.aload_n (pc' := 20) d_FU_on_19 rfl rfl ?_
      refine G.get (pc' := 23) d_FU_on_20 rfl fg_FU_51 (HX_0 _ _) rfl ?_
      refine G.iload_n (pc' := 24) d_FU_on_23 rfl rfl ?_
      refine G.iload_n (pc' := 25) d_FU_on_24 rfl rfl ?_
      refine G.callVi (As := [vi l1, vi l2]) (n := 2) (i := 23) (ci := 6) (st := []) (t_Clo_onStage_23 l1 l2 s2 _) (pc' := 28) d_FU_on_25 rfl lm_FU_159 mk_Clo_onStage mv_Clo_onStage ⟨rfl, rfl⟩ ⟨by decide, by decide⟩ (HX_23 _ _) rfl rfl rfl rfl ⟨Nat.le_refl _, Nat.le_refl _⟩ rfl (fun v3 s3 => ?_)
      refine G.goto (tgt := 32) d_FU_on_28 (by decide) ?_
      exact G.iret d_FU_on_32 rfl ⟨Nat.le_refl _, Nat.le_refl _⟩
theorem t_FU_reasons (l1 l2 : Int32) (s : Sg) (R : List AC) : Ct q_FU_reasons [vr 0, vi l1, vi l2] s R (f_FU_reasons l1 l2 s) := by
  refine Ct.of (by decide) rfl (ρ := [some (vr 0), some (vi l1), some (vi l2)]) rfl ?_
  unfold f_FU_reasons
  refine G.aload_n (pc' := 1) d_FU_reasons_0 rfl rfl ?_
  refine G.iload_n (pc' := 2) d_FU_reasons_1 rfl rfl ?_
  refine G.iload_n (pc' := 3) d_FU_reasons_2 rfl rfl ?_
  refine G.callVi (As := [vi l1, vi l2]) (n := 2) (i := 0) (ci := 0) (st := []) (t_FU_on l1 l2 s _) (pc' := 6) d_FU_reasons_3 rfl lm_FU_162 mk_FU_on mv_FU_on ⟨rfl, rfl⟩ ⟨by decide, by decide⟩ (HX_0 _ _) rfl rfl rfl rfl ⟨Nat.le_refl _, Nat.le_refl _⟩ rfl (fun v1 s1 => ?_)
  refine G.if_ne (pc' := 9) (tgt := 13) d_FU_reasons_6 rfl (by decide) ?_ ?_
  · refine G.iconst (v := 0) (pc' := 10) d_FU_reasons_9 rfl kI_0 ?_
    refine G.goto (tgt := 22) d_FU_reasons_10 (by decide) ?_
    exact G.iret d_FU_reasons_22 rfl ⟨Nat.le_refl _, Nat.le_refl _⟩
  · refine G.aload_n (pc' := 14) d_FU_reasons_13 rfl rfl ?_
    refine G.get (pc' := 17) d_FU_reasons_14 rfl fg_FU_63 (HX_0 _ _) rfl ?_
    refine G.iload_n (pc' := 18) d_FU_reasons_17 rfl rfl ?_
    refine G.iload_n (pc' := 19) d_FU_reasons_18 rfl rfl ?_
    refine G.callVi (As := [vi l1, vi l2]) (n := 2) (i := 29) (ci := 7) (st := []) (t_Reas_countOf l1 l2 s1 _) (pc' := 22) d_FU_reasons_19 rfl lm_FU_165 mk_Reas_countOf mv_Reas_countOf ⟨rfl, rfl⟩ ⟨by decide, by decide⟩ (HX_29 _ _) rfl rfl rfl rfl ⟨Nat.le_refl _, Nat.le_refl _⟩ rfl (fun v2 s2 => ?_)
    exact G.iret d_FU_reasons_22 rfl ⟨Nat.le_refl _, Nat.le_refl _⟩
theorem t_FU_reason (l1 l2 l3 l4 : Int32) (s : Sg) (R : List AC) : Ct q_FU_reason [vr 0, vi l1, vi l2, vi l3, vi l4] s R (f_FU_reason l1 l2 l3 l4 s) := by
  refine Ct.of (by decide) rfl (ρ := [some (vr 0), some (vi l1), some (vi l2), some (vi l3), some (vi l4), none]) rfl ?_
  unfold f_FU_reason
  refine G.iload (pc' := 2) d_FU_reason_0 rfl rfl ?_
  refine G.iconst (v := 2) (pc' := 3) d_FU_reason_2 rfl kI_2 ?_
  refine G.callSi (As := [vi l4, vi 2]) (n := 2) (st := []) (t_FU_within l4 2 s _) (pc' := 6) d_FU_reason_3 rfl lm_FU_90 mk_FU_within sx_FU_within ⟨rfl, rfl⟩ ⟨by decide, by decide⟩ rfl rfl rfl ⟨Nat.le_refl _, Nat.le_refl _⟩ rfl (fun v1 s1 => ?_)
  refine G.if_eq (pc' := 9) (tgt := 18) d_FU_reason_6 rfl (by decide) ?_ ?_
  · refine G.iconst (v := (-1)) (pc' := 19) d_FU_reason_18 rfl kI_m1 ?_
    exact G.iret d_FU_reason_19 rfl ⟨Nat.le_refl _, Nat.le_refl _⟩
  · refine G.aload_n (pc' := 10) d_FU_reason_9 rfl rfl ?_
    refine G.iload_n (pc' := 11) d_FU_reason_10 rfl rfl ?_
    refine G.iload_n (pc' := 12) d_FU_reason_11 rfl rfl ?_
    refine G.callVi (As := [vi l1, vi l2]) (n := 2) (i := 0) (ci := 0) (st := []) (t_FU_on l1 l2 s1 _) (pc' := 15) d_FU_reason_12 rfl lm_FU_162 mk_FU_on mv_FU_on ⟨rfl, rfl⟩ ⟨by decide, by decide⟩ (HX_0 _ _) rfl rfl rfl rfl ⟨Nat.le_refl _, Nat.le_refl _⟩ rfl (fun v2 s2 => ?_)
    refine G.if_ne (pc' := 18) (tgt := 20) d_FU_reason_15 rfl (by decide) ?_ ?_
    · refine G.iconst (v := (-1)) (pc' := 19) d_FU_reason_18 rfl kI_m1 ?_
      exact G.iret d_FU_reason_19 rfl ⟨Nat.le_refl _, Nat.le_refl _⟩
    · refine G.aload_n (pc' := 21) d_FU_reason_20 rfl rfl ?_
      refine G.get (pc' := 24) d_FU_reason_21 rfl fg_FU_63 (HX_0 _ _) rfl ?_
      refine G.iload_n (pc' := 25) d_FU_reason_24 rfl rfl ?_
      refine G.iload_n (pc' := 26) d_FU_reason_25 rfl rfl ?_
      refine G.iload_n (pc' := 27) d_FU_reason_26 rfl rfl ?_
      refine G.callVi (As := [vi l1, vi l2, vi l3]) (n := 3) (i := 29) (ci := 7) (st := []) (t_Reas_find l1 l2 l3 s2 _) (pc' := 30) d_FU_reason_27 rfl lm_FU_167 mk_Reas_find mv_Reas_find ⟨rfl, rfl⟩ ⟨by decide, by decide⟩ (HX_29 _ _) rfl rfl rfl rfl ⟨Nat.le_refl _, Nat.le_refl _⟩ rfl (fun v3 s3 => ?_)
      refine G.istore (ρ' := [some (vr 0), some (vi l1), some (vi l2), some (vi l3), some (vi l4), some (vi v3)]) (pc' := 32) d_FU_reason_30 rfl (by decide) rfl ?_
      refine G.iload (pc' := 34) d_FU_reason_32 rfl rfl ?_
      refine G.iconst (v := (-1)) (pc' := 35) d_FU_reason_34 rfl kI_m1 ?_
      refine G.icmp_ne (pc' := 38) (tgt := 40) d_FU_reason_35 rfl (by decide) ?_ ?_
      · refine G.iconst (v := (-1)) (pc' := 39) d_FU_reason_38 rfl kI_m1 ?_
        exact G.iret d_FU_reason_39 rfl ⟨Nat.le_refl _, Nat.le_refl _⟩
      · refine G.iload (pc' := 42) d_FU_reason_40 rfl rfl ?_
        refine G.if_ne (pc' := 45) (tgt := 54) d_FU_reason_42 rfl (by decide) ?_ ?_
        · refine G.iload (pc' := 47) d_FU_reason_45 rfl rfl ?_
          refine G.sipush (v := 128) (pc' := 50) d_FU_reason_47 rfl kS_128 ?_
          refine G.idivK (by decide) (pc' := 51) d_FU_reason_50 rfl ?_
          refine G.goto (tgt := 60) d_FU_reason_51 (by decide) ?_
          exact G.iret d_FU_reason_60 rfl ⟨Nat.le_refl _, Nat.le_refl _⟩
        · refine G.iload (pc' := 56) d_FU_reason_54 rfl rfl ?_
          refine G.sipush (v := 128) (pc' := 59) d_FU_reason_56 rfl kS_128 ?_
          refine G.iremK (by decide) (pc' := 60) d_FU_reason_59 rfl ?_
          exact G.iret d_FU_reason_60 rfl ⟨Nat.le_refl _, Nat.le_refl _⟩
theorem t_FU_clash_69 {R : List AC} (rec19 : Int32 → Int32 → Sg → Ro) (rec37 : Int32 → Int32 → Sg → Ro) (l2 l4 l5 : Int32) (hrec19 : ∀ (l3 l4 : Int32) (s : Sg), Gd q_FU_clash none 19 [some (vr 0), none, some (vi l2), some (vi l3), some (vi l4), none, none] [] s R 0 0 (rec19 l3 l4 s)) (hrec37 : ∀ (l3 l5 : Int32) (s : Sg), Gd q_FU_clash none 37 [some (vr 0), none, some (vi l2), some (vi l3), some (vi l4), some (vi l5), none] [] s R 0 0 (rec37 l3 l5 s)) : ∀ (l3 l6 : Int32) (s : Sg), Gd q_FU_clash none 69 [some (vr 0), none, some (vi l2), some (vi l3), some (vi l4), some (vi l5), some (vi l6)] [] s R 0 0 (f_FU_clash_69 rec19 rec37 l2 l4 l5 l3 l6 s) := by
  intro l3 l6 s
  unfold f_FU_clash_69
  refine G.loop2 (rf := fun l3 l6 => [some (vr 0), none, some (vi l2), some (vi l3), some (vi l4), some (vi l5), some (vi l6)]) ?_ 4096 l3 l6 s
  intro rec69 hrec69 l3 l6 s
  refine G.iload (pc' := 71) d_FU_clash_69 rfl rfl ?_
  refine G.iconst (v := 2) (pc' := 72) d_FU_clash_71 rfl kI_2 ?_
  refine G.icmp_ge (pc' := 75) (tgt := 141) d_FU_clash_72 rfl (by decide) ?_ ?_
  · refine G.iinc (w := 1) (v := l5 + 1) (ρ' := [some (vr 0), none, some (vi l2), some (vi l3), some (vi l4), some (vi (l5 + 1)), some (vi l6)]) (pc' := 144) d_FU_clash_141 rfl rfl (by decide) kI_1 rfl rfl ?_
    refine G.goto (tgt := 37) d_FU_clash_144 (by decide) ?_
    refine G.mask [true, false, true, true, true, true, false] (ρ' := [some (vr 0), none, some (vi l2), some (vi l3), some (vi l4), some (vi (l5 + 1)), none]) rfl ?_
    exact hrec37 l3 (l5 + 1) s
  · refine G.aload_n (pc' := 76) d_FU_clash_75 rfl rfl ?_
    refine G.get (pc' := 79) d_FU_clash_76 rfl fg_FU_51 (HX_0 _ _) rfl ?_
    refine G.iload (pc' := 81) d_FU_clash_79 rfl rfl ?_
    refine G.iload (pc' := 83) d_FU_clash_81 rfl rfl ?_
    refine G.callVi (As := [vi l4, vi l6]) (n := 2) (i := 23) (ci := 6) (st := []) (t_Clo_onStage_23 l4 l6 s _) (pc' := 86) d_FU_clash_83 rfl lm_FU_159 mk_Clo_onStage mv_Clo_onStage ⟨rfl, rfl⟩ ⟨by decide, by decide⟩ (HX_23 _ _) rfl rfl rfl rfl ⟨Nat.le_refl _, Nat.le_refl _⟩ rfl (fun v1 s1 => ?_)
    refine G.if_eq (pc' := 89) (tgt := 135) d_FU_clash_86 rfl (by decide) ?_ ?_
    · refine G.iinc (w := 1) (v := l6 + 1) (ρ' := [some (vr 0), none, some (vi l2), some (vi l3), some (vi l4), some (vi l5), some (vi (l6 + 1))]) (pc' := 138) d_FU_clash_135 rfl rfl (by decide) kI_1 rfl rfl ?_
      refine G.goto (tgt := 69) d_FU_clash_138 (by decide) ?_
      exact hrec69 l3 (l6 + 1) s1
    · refine G.aload_n (pc' := 90) d_FU_clash_89 rfl rfl ?_
      refine G.get (pc' := 93) d_FU_clash_90 rfl fg_FU_51 (HX_0 _ _) rfl ?_
      refine G.iload (pc' := 95) d_FU_clash_93 rfl rfl ?_
      refine G.iload (pc' := 97) d_FU_clash_95 rfl rfl ?_
      refine G.callVi (As := [vi l5, vi l6]) (n := 2) (i := 23) (ci := 6) (st := []) (t_Clo_onStage_23 l5 l6 s1 _) (pc' := 100) d_FU_clash_97 rfl lm_FU_159 mk_Clo_onStage mv_Clo_onStage ⟨rfl, rfl⟩ ⟨by decide, by decide⟩ (HX_23 _ _) rfl rfl rfl rfl ⟨Nat.le_refl _, Nat.le_refl _⟩ rfl (fun v2 s2 => ?_)
      refine G.if_ne (pc' := 103) (tgt := 106) d_FU_clash_100 rfl (by decide) ?_ ?_
      · refine G.goto (tgt := 135) d_FU_clash_103 (by decide) ?_
        refine G.iinc (w := 1) (v := l6 + 1) (ρ' := [some (vr 0), none, some (vi l2), some (vi l3), some (vi l4), some (vi l5), some (vi (l6 + 1))]) (pc' := 138) d_FU_clash_135 rfl rfl (by decide) kI_1 rfl rfl ?_
        refine G.goto (tgt := 69) d_FU_clash_138 (by decide) ?_
        exact hrec69 l3 (l6 + 1) s2
      · refine G.iload_n (pc' := 107) d_FU_clash_106 rfl rfl ?_
        refine G.if_ne (pc' := 110) (tgt := 132) d_FU_clash_107 rfl (by decide) ?_ ?_
        · refine G.iload_n (pc' := 111) d_FU_clash_110 rfl rfl ?_
          refine G.if_ne (pc' := 114) (tgt := 119) d_FU_clash_111 rfl (by decide) ?_ ?_
          · refine G.iload (pc' := 116) d_FU_clash_114 rfl rfl ?_
            refine G.goto (tgt := 131) d_FU_clash_116 (by decide) ?_
            exact G.iret d_FU_clash_131 rfl ⟨Nat.le_refl _, Nat.le_refl _⟩
          · refine G.iload_n (pc' := 120) d_FU_clash_119 rfl rfl ?_
            refine G.iconst (v := 1) (pc' := 121) d_FU_clash_120 rfl kI_1 ?_
            refine G.icmp_ne (pc' := 124) (tgt := 129) d_FU_clash_121 rfl (by decide) ?_ ?_
            · refine G.iload (pc' := 126) d_FU_clash_124 rfl rfl ?_
              refine G.goto (tgt := 131) d_FU_clash_126 (by decide) ?_
              exact G.iret d_FU_clash_131 rfl ⟨Nat.le_refl _, Nat.le_refl _⟩
            · refine G.iload (pc' := 131) d_FU_clash_129 rfl rfl ?_
              exact G.iret d_FU_clash_131 rfl ⟨Nat.le_refl _, Nat.le_refl _⟩
        · refine G.iinc (w := (-1)) (v := l3 + (-1)) (ρ' := [some (vr 0), none, some (vi l2), some (vi (l3 + (-1))), some (vi l4), some (vi l5), some (vi l6)]) (pc' := 135) d_FU_clash_132 rfl rfl (by decide) kI_m1 rfl rfl ?_
          refine G.iinc (w := 1) (v := l6 + 1) (ρ' := [some (vr 0), none, some (vi l2), some (vi (l3 + (-1))), some (vi l4), some (vi l5), some (vi (l6 + 1))]) (pc' := 138) d_FU_clash_135 rfl rfl (by decide) kI_1 rfl rfl ?_
          refine G.goto (tgt := 69) d_FU_clash_138 (by decide) ?_
          exact hrec69 (l3 + (-1)) (l6 + 1) s2
theorem t_FU_clash_37 {R : List AC} (rec19 : Int32 → Int32 → Sg → Ro) (l2 l4 : Int32) (hrec19 : ∀ (l3 l4 : Int32) (s : Sg), Gd q_FU_clash none 19 [some (vr 0), none, some (vi l2), some (vi l3), some (vi l4), none, none] [] s R 0 0 (rec19 l3 l4 s)) : ∀ (l3 l5 : Int32) (s : Sg), Gd q_FU_clash none 37 [some (vr 0), none, some (vi l2), some (vi l3), some (vi l4), some (vi l5), none] [] s R 0 0 (f_FU_clash_37 rec19 l2 l4 l3 l5 s) := by
  intro l3 l5 s
  unfold f_FU_clash_37
  refine G.loop2 (rf := fun l3 l5 => [some (vr 0), none, some (vi l2), some (vi l3), some (vi l4), some (vi l5), none]) ?_ 4096 l3 l5 s
  intro rec37 hrec37 l3 l5 s
  refine G.iload (pc' := 39) d_FU_clash_37 rfl rfl ?_
  refine G.aload_n (pc' := 40) d_FU_clash_39 rfl rfl ?_
  refine G.get (pc' := 43) d_FU_clash_40 rfl fg_FU_19 (HX_0 _ _) rfl ?_
  refine G.get (pc' := 46) d_FU_clash_43 rfl fg_FU_102 (HX_3 _ _) rfl ?_
  refine G.icmp_ge (pc' := 49) (tgt := 147) d_FU_clash_46 rfl (by decide) ?_ ?_
  · refine G.iinc (w := 1) (v := l4 + 1) (ρ' := [some (vr 0), none, some (vi l2), some (vi l3), some (vi (l4 + 1)), some (vi l5), none]) (pc' := 150) d_FU_clash_147 rfl rfl (by decide) kI_1 rfl rfl ?_
    refine G.goto (tgt := 19) d_FU_clash_150 (by decide) ?_
    refine G.mask [true, false, true, true, true, false, false] (ρ' := [some (vr 0), none, some (vi l2), some (vi l3), some (vi (l4 + 1)), none, none]) rfl ?_
    exact hrec19 l3 (l4 + 1) s
  · refine G.aload_n (pc' := 50) d_FU_clash_49 rfl rfl ?_
    refine G.get (pc' := 53) d_FU_clash_50 rfl fg_FU_19 (HX_0 _ _) rfl ?_
    refine G.iload (pc' := 55) d_FU_clash_53 rfl rfl ?_
    refine G.iload (pc' := 57) d_FU_clash_55 rfl rfl ?_
    refine G.callVi (As := [vi l4, vi l5]) (n := 2) (i := 3) (ci := 2) (st := []) (t_Feats_exclude l4 l5 s _) (pc' := 60) d_FU_clash_57 rfl lm_FU_170 mk_Feats_exclude mv_Feats_exclude ⟨rfl, rfl⟩ ⟨by decide, by decide⟩ (HX_3 _ _) rfl rfl rfl rfl ⟨Nat.le_refl _, Nat.le_refl _⟩ rfl (fun v1 s1 => ?_)
    refine G.if_ne (pc' := 63) (tgt := 66) d_FU_clash_60 rfl (by decide) ?_ ?_
    · refine G.goto (tgt := 141) d_FU_clash_63 (by decide) ?_
      refine G.iinc (w := 1) (v := l5 + 1) (ρ' := [some (vr 0), none, some (vi l2), some (vi l3), some (vi l4), some (vi (l5 + 1)), none]) (pc' := 144) d_FU_clash_141 rfl rfl (by decide) kI_1 rfl rfl ?_
      refine G.goto (tgt := 37) d_FU_clash_144 (by decide) ?_
      exact hrec37 l3 (l5 + 1) s1
    · refine G.iconst (v := 0) (pc' := 67) d_FU_clash_66 rfl kI_0 ?_
      refine G.istore (ρ' := [some (vr 0), none, some (vi l2), some (vi l3), some (vi l4), some (vi l5), some (vi 0)]) (pc' := 69) d_FU_clash_67 rfl (by decide) rfl ?_
      exact t_FU_clash_69 rec19 rec37 l2 l4 l5 hrec19 hrec37 l3 0 s1
theorem t_FU_clash_19 {R : List AC}  (l2 : Int32) : ∀ (l3 l4 : Int32) (s : Sg), Gd q_FU_clash none 19 [some (vr 0), none, some (vi l2), some (vi l3), some (vi l4), none, none] [] s R 0 0 (f_FU_clash_19 l2 l3 l4 s) := by
  intro l3 l4 s
  unfold f_FU_clash_19
  refine G.loop2 (rf := fun l3 l4 => [some (vr 0), none, some (vi l2), some (vi l3), some (vi l4), none, none]) ?_ 4096 l3 l4 s
  intro rec19 hrec19 l3 l4 s
  refine G.iload (pc' := 21) d_FU_clash_19 rfl rfl ?_
  refine G.aload_n (pc' := 22) d_FU_clash_21 rfl rfl ?_
  refine G.get (pc' := 25) d_FU_clash_22 rfl fg_FU_19 (HX_0 _ _) rfl ?_
  refine G.get (pc' := 28) d_FU_clash_25 rfl fg_FU_102 (HX_3 _ _) rfl ?_
  refine G.icmp_ge (pc' := 31) (tgt := 153) d_FU_clash_28 rfl (by decide) ?_ ?_
  · refine G.iconst (v := (-1)) (pc' := 154) d_FU_clash_153 rfl kI_m1 ?_
    exact G.iret d_FU_clash_154 rfl ⟨Nat.le_refl _, Nat.le_refl _⟩
  · refine G.iload (pc' := 33) d_FU_clash_31 rfl rfl ?_
    refine G.iconst (v := 1) (pc' := 34) d_FU_clash_33 rfl kI_1 ?_
    refine G.iadd (pc' := 35) d_FU_clash_34 rfl ?_
    refine G.istore (ρ' := [some (vr 0), none, some (vi l2), some (vi l3), some (vi l4), some (vi (l4 + 1)), none]) (pc' := 37) d_FU_clash_35 rfl (by decide) rfl ?_
    exact t_FU_clash_37 rec19 l2 l4 hrec19 l3 (l4 + 1) s
theorem t_FU_clash (l1 l2 : Int32) (s : Sg) (R : List AC) : Ct q_FU_clash [vr 0, vi l1, vi l2] s R (f_FU_clash l1 l2 s) := by
  refine Ct.of (by decide) rfl (ρ := [some (vr 0), some (vi l1), some (vi l2), none, none, none, none]) rfl ?_
  unfold f_FU_clash
  refine G.iload_n (pc' := 1) d_FU_clash_0 rfl rfl ?_
  refine G.if_lt (pc' := 4) (tgt := 12) d_FU_clash_1 rfl (by decide) ?_ ?_
  · refine G.iconst (v := (-1)) (pc' := 13) d_FU_clash_12 rfl kI_m1 ?_
    exact G.iret d_FU_clash_13 rfl ⟨Nat.le_refl _, Nat.le_refl _⟩
  · refine G.iload_n (pc' := 5) d_FU_clash_4 rfl rfl ?_
    refine G.iconst (v := 3) (pc' := 6) d_FU_clash_5 rfl kI_3 ?_
    refine G.callSi (As := [vi l2, vi 3]) (n := 2) (st := []) (t_FU_within l2 3 s _) (pc' := 9) d_FU_clash_6 rfl lm_FU_90 mk_FU_within sx_FU_within ⟨rfl, rfl⟩ ⟨by decide, by decide⟩ rfl rfl rfl ⟨Nat.le_refl _, Nat.le_refl _⟩ rfl (fun v1 s1 => ?_)
    refine G.if_ne (pc' := 12) (tgt := 14) d_FU_clash_9 rfl (by decide) ?_ ?_
    · refine G.iconst (v := (-1)) (pc' := 13) d_FU_clash_12 rfl kI_m1 ?_
      exact G.iret d_FU_clash_13 rfl ⟨Nat.le_refl _, Nat.le_refl _⟩
    · refine G.iload_n (pc' := 15) d_FU_clash_14 rfl rfl ?_
      refine G.istore_n (ρ' := [some (vr 0), some (vi l1), some (vi l2), some (vi l1), none, none, none]) (pc' := 16) d_FU_clash_15 rfl (by decide) rfl ?_
      refine G.iconst (v := 0) (pc' := 17) d_FU_clash_16 rfl kI_0 ?_
      refine G.istore (ρ' := [some (vr 0), some (vi l1), some (vi l2), some (vi l1), some (vi 0), none, none]) (pc' := 19) d_FU_clash_17 rfl (by decide) rfl ?_
      refine G.mask [true, false, true, true, true, false, false] (ρ' := [some (vr 0), none, some (vi l2), some (vi l1), some (vi 0), none, none]) rfl ?_
      exact t_FU_clash_19 l2 l1 0 s1
theorem t_FU_noteLeavers_20 {R : List AC} (rec7 : Int32 → Sg → Ro) (l1 : Int32) (hrec7 : ∀ (l1 : Int32) (s : Sg), Gd q_FU_noteLeavers none 7 [some (vr 0), some (vi l1), none] [] s R 0 0 (rec7 l1 s)) : ∀ (l2 : Int32) (s : Sg), Gd q_FU_noteLeavers none 20 [some (vr 0), some (vi l1), some (vi l2)] [] s R 0 0 (f_FU_noteLeavers_20 rec7 l1 l2 s) := by
  intro l2 s
  unfold f_FU_noteLeavers_20
  refine G.loop1 (rf := fun l2 => [some (vr 0), some (vi l1), some (vi l2)]) ?_ 4096 l2 s
  intro rec20 hrec20 l2 s
  refine G.iload_n (pc' := 21) d_FU_noteLeavers_20 rfl rfl ?_
  refine G.iconst (v := 2) (pc' := 22) d_FU_noteLeavers_21 rfl kI_2 ?_
  refine G.icmp_ge (pc' := 25) (tgt := 79) d_FU_noteLeavers_22 rfl (by decide) ?_ ?_
  · refine G.iinc (w := 1) (v := l1 + 1) (ρ' := [some (vr 0), some (vi (l1 + 1)), some (vi l2)]) (pc' := 82) d_FU_noteLeavers_79 rfl rfl (by decide) kI_1 rfl rfl ?_
    refine G.goto (tgt := 7) d_FU_noteLeavers_82 (by decide) ?_
    refine G.mask [true, true, false] (ρ' := [some (vr 0), some (vi (l1 + 1)), none]) rfl ?_
    exact hrec7 (l1 + 1) s
  · refine G.aload_n (pc' := 26) d_FU_noteLeavers_25 rfl rfl ?_
    refine G.get (pc' := 29) d_FU_noteLeavers_26 rfl fg_FU_51 (HX_0 _ _) rfl ?_
    refine G.iload_n (pc' := 30) d_FU_noteLeavers_29 rfl rfl ?_
    refine G.iload_n (pc' := 31) d_FU_noteLeavers_30 rfl rfl ?_
    refine G.callVi (As := [vi l1, vi l2]) (n := 2) (i := 23) (ci := 6) (st := []) (t_Clo_onStage_23 l1 l2 s _) (pc' := 34) d_FU_noteLeavers_31 rfl lm_FU_159 mk_Clo_onStage mv_Clo_onStage ⟨rfl, rfl⟩ ⟨by decide, by decide⟩ (HX_23 _ _) rfl rfl rfl rfl ⟨Nat.le_refl _, Nat.le_refl _⟩ rfl (fun v1 s1 => ?_)
    refine G.if_eq (pc' := 37) (tgt := 73) d_FU_noteLeavers_34 rfl (by decide) ?_ ?_
    · refine G.iinc (w := 1) (v := l2 + 1) (ρ' := [some (vr 0), some (vi l1), some (vi (l2 + 1))]) (pc' := 76) d_FU_noteLeavers_73 rfl rfl (by decide) kI_1 rfl rfl ?_
      refine G.goto (tgt := 20) d_FU_noteLeavers_76 (by decide) ?_
      exact hrec20 (l2 + 1) s1
    · refine G.aload_n (pc' := 38) d_FU_noteLeavers_37 rfl rfl ?_
      refine G.get (pc' := 41) d_FU_noteLeavers_38 rfl fg_FU_55 (HX_0 _ _) rfl ?_
      refine G.iload_n (pc' := 42) d_FU_noteLeavers_41 rfl rfl ?_
      refine G.iload_n (pc' := 43) d_FU_noteLeavers_42 rfl rfl ?_
      refine G.callVi (As := [vi l1, vi l2]) (n := 2) (i := 26) (ci := 6) (st := []) (t_Clo_onStage_26 l1 l2 s1 _) (pc' := 46) d_FU_noteLeavers_43 rfl lm_FU_159 mk_Clo_onStage mv_Clo_onStage ⟨rfl, rfl⟩ ⟨by decide, by decide⟩ (HX_26 _ _) rfl rfl rfl rfl ⟨Nat.le_refl _, Nat.le_refl _⟩ rfl (fun v2 s2 => ?_)
      refine G.if_ne (pc' := 49) (tgt := 73) d_FU_noteLeavers_46 rfl (by decide) ?_ ?_
      · refine G.aload_n (pc' := 50) d_FU_noteLeavers_49 rfl rfl ?_
        refine G.get (pc' := 53) d_FU_noteLeavers_50 rfl fg_FU_67 (HX_0 _ _) rfl ?_
        refine G.aload_n (pc' := 54) d_FU_noteLeavers_53 rfl rfl ?_
        refine G.get (pc' := 57) d_FU_noteLeavers_54 rfl fg_FU_71 (HX_0 _ _) rfl ?_
        refine G.iconst (v := 2) (pc' := 58) d_FU_noteLeavers_57 rfl kI_2 ?_
        refine G.iload_n (pc' := 59) d_FU_noteLeavers_58 rfl rfl ?_
        refine G.imul (pc' := 60) d_FU_noteLeavers_59 rfl ?_
        refine G.iload_n (pc' := 61) d_FU_noteLeavers_60 rfl rfl ?_
        refine G.iadd (pc' := 62) d_FU_noteLeavers_61 rfl ?_
        refine G.iast (s' := wr s2 30 (ix (s2 0 9)) ((2 * l1) + l2)) (pc' := 63) d_FU_noteLeavers_62 rfl (HX_30 _ _) (HXa_30 _ _ _ _) ?_
        refine G.aload_n (pc' := 64) d_FU_noteLeavers_63 rfl rfl ?_
        refine G.dup (pc' := 65) d_FU_noteLeavers_64 rfl ?_
        refine G.get (pc' := 68) d_FU_noteLeavers_65 rfl fg_FU_71 (HX_0 _ _) rfl ?_
        refine G.eqv (w := vi (s2 0 9)) rfl ?_
        refine G.iconst (v := 1) (pc' := 69) d_FU_noteLeavers_68 rfl kI_1 ?_
        refine G.iadd (pc' := 70) d_FU_noteLeavers_69 rfl ?_
        refine G.put (s' := wr (wr s2 30 (ix (s2 0 9)) ((2 * l1) + l2)) 0 9 ((s2 0 9) + 1)) (pc' := 73) d_FU_noteLeavers_70 rfl fp_FU_71 trivial (HX_0 _ _) rfl (HXf_0_9 _ _ _) ?_
        refine G.iinc (w := 1) (v := l2 + 1) (ρ' := [some (vr 0), some (vi l1), some (vi (l2 + 1))]) (pc' := 76) d_FU_noteLeavers_73 rfl rfl (by decide) kI_1 rfl rfl ?_
        refine G.goto (tgt := 20) d_FU_noteLeavers_76 (by decide) ?_
        exact hrec20 (l2 + 1) (wr (wr s2 30 (ix (s2 0 9)) ((2 * l1) + l2)) 0 9 ((s2 0 9) + 1))
      · refine G.iinc (w := 1) (v := l2 + 1) (ρ' := [some (vr 0), some (vi l1), some (vi (l2 + 1))]) (pc' := 76) d_FU_noteLeavers_73 rfl rfl (by decide) kI_1 rfl rfl ?_
        refine G.goto (tgt := 20) d_FU_noteLeavers_76 (by decide) ?_
        exact hrec20 (l2 + 1) s2
theorem t_FU_noteLeavers_7 {R : List AC}  : ∀ (l1 : Int32) (s : Sg), Gd q_FU_noteLeavers none 7 [some (vr 0), some (vi l1), none] [] s R 0 0 (f_FU_noteLeavers_7 l1 s) := by
  intro l1 s
  unfold f_FU_noteLeavers_7
  refine G.loop1 (rf := fun l1 => [some (vr 0), some (vi l1), none]) ?_ 4096 l1 s
  intro rec7 hrec7 l1 s
  refine G.iload_n (pc' := 8) d_FU_noteLeavers_7 rfl rfl ?_
  refine G.aload_n (pc' := 9) d_FU_noteLeavers_8 rfl rfl ?_
  refine G.get (pc' := 12) d_FU_noteLeavers_9 rfl fg_FU_19 (HX_0 _ _) rfl ?_
  refine G.get (pc' := 15) d_FU_noteLeavers_12 rfl fg_FU_102 (HX_3 _ _) rfl ?_
  refine G.icmp_ge (pc' := 18) (tgt := 85) d_FU_noteLeavers_15 rfl (by decide) ?_ ?_
  · exact G.vret d_FU_noteLeavers_85 rfl ⟨Nat.le_refl _, Nat.le_refl _⟩
  · refine G.iconst (v := 0) (pc' := 19) d_FU_noteLeavers_18 rfl kI_0 ?_
    refine G.istore_n (ρ' := [some (vr 0), some (vi l1), some (vi 0)]) (pc' := 20) d_FU_noteLeavers_19 rfl (by decide) rfl ?_
    exact t_FU_noteLeavers_20 rec7 l1 hrec7 0 s
theorem t_FU_noteLeavers (s : Sg) (R : List AC) : Ct q_FU_noteLeavers [vr 0] s R (f_FU_noteLeavers s) := by
  refine Ct.of (by decide) rfl (ρ := [some (vr 0), none, none]) rfl ?_
  unfold f_FU_noteLeavers
  refine G.aload_n (pc' := 1) d_FU_noteLeavers_0 rfl rfl ?_
  refine G.iconst (v := 0) (pc' := 2) d_FU_noteLeavers_1 rfl kI_0 ?_
  refine G.put (s' := wr s 0 9 0) (pc' := 5) d_FU_noteLeavers_2 rfl fp_FU_71 trivial (HX_0 _ _) rfl (HXf_0_9 _ _ _) ?_
  refine G.iconst (v := 0) (pc' := 6) d_FU_noteLeavers_5 rfl kI_0 ?_
  refine G.istore_n (ρ' := [some (vr 0), some (vi 0), none]) (pc' := 7) d_FU_noteLeavers_6 rfl (by decide) rfl ?_
  exact t_FU_noteLeavers_7 0 (wr s 0 9 0)
theorem t_FU_without (l1 l2 : Int32) (s : Sg) (R : List AC) : Ct q_FU_without [vr 0, vi l1, vi l2] s R (f_FU_without l1 l2 s) := by
  refine Ct.of (by decide) rfl (ρ := [some (vr 0), some (vi l1), some (vi l2), none]) rfl ?_
  unfold f_FU_without
  refine G.aload_n (pc' := 1) d_FU_without_0 rfl rfl ?_
  refine G.get (pc' := 4) d_FU_without_1 rfl fg_FU_75 (HX_0 _ _) rfl ?_
  refine G.if_eq (pc' := 7) (tgt := 43) d_FU_without_4 rfl (by decide) ?_ ?_
  · refine G.iconst (v := (-1)) (pc' := 44) d_FU_without_43 rfl kI_m1 ?_
    exact G.iret d_FU_without_44 rfl ⟨Nat.le_refl _, Nat.le_refl _⟩
  · refine G.aload_n (pc' := 8) d_FU_without_7 rfl rfl ?_
    refine G.get (pc' := 11) d_FU_without_8 rfl fg_FU_26 (HX_0 _ _) rfl ?_
    refine G.iload_n (pc' := 12) d_FU_without_11 rfl rfl ?_
    refine G.callVi (As := [vi l1]) (n := 1) (i := 8) (ci := 3) (st := []) (t_Users_has l1 s _) (pc' := 15) d_FU_without_12 rfl lm_FU_120 mk_Users_has mv_Users_has ⟨rfl, rfl⟩ ⟨by decide, by decide⟩ (HX_8 _ _) rfl rfl rfl rfl ⟨Nat.le_refl _, Nat.le_refl _⟩ rfl (fun v1 s1 => ?_)
    refine G.if_eq (pc' := 18) (tgt := 43) d_FU_without_15 rfl (by decide) ?_ ?_
    · refine G.iconst (v := (-1)) (pc' := 44) d_FU_without_43 rfl kI_m1 ?_
      exact G.iret d_FU_without_44 rfl ⟨Nat.le_refl _, Nat.le_refl _⟩
    · refine G.iload_n (pc' := 19) d_FU_without_18 rfl rfl ?_
      refine G.bipush (v := 32) (pc' := 21) d_FU_without_19 rfl kB_32 ?_
      refine G.callSi (As := [vi l2, vi 32]) (n := 2) (st := []) (t_FU_within l2 32 s1 _) (pc' := 24) d_FU_without_21 rfl lm_FU_90 mk_FU_within sx_FU_within ⟨rfl, rfl⟩ ⟨by decide, by decide⟩ rfl rfl rfl ⟨Nat.le_refl _, Nat.le_refl _⟩ rfl (fun v2 s2 => ?_)
      refine G.if_eq (pc' := 27) (tgt := 43) d_FU_without_24 rfl (by decide) ?_ ?_
      · refine G.iconst (v := (-1)) (pc' := 44) d_FU_without_43 rfl kI_m1 ?_
        exact G.iret d_FU_without_44 rfl ⟨Nat.le_refl _, Nat.le_refl _⟩
      · refine G.aload_n (pc' := 28) d_FU_without_27 rfl rfl ?_
        refine G.get (pc' := 31) d_FU_without_28 rfl fg_FU_42 (HX_0 _ _) rfl ?_
        refine G.get (pc' := 34) d_FU_without_31 rfl fg_FU_173 (HX_21 _ _) rfl ?_
        refine G.iload_n (pc' := 35) d_FU_without_34 rfl rfl ?_
        refine G.iald (pc' := 36) d_FU_without_35 rfl (HX_22 _ _) ?_
        refine G.iload_n (pc' := 37) d_FU_without_36 rfl rfl ?_
        refine G.callSi (As := [vi (s2 22 (ix l1)), vi l2]) (n := 2) (st := []) (t_FU_bit (s2 22 (ix l1)) l2 s2 _) (pc' := 40) d_FU_without_37 rfl lm_FU_109 mk_FU_bit sx_FU_bit ⟨rfl, rfl⟩ ⟨by decide, by decide⟩ rfl rfl rfl ⟨Nat.le_refl _, Nat.le_refl _⟩ rfl (fun v3 s3 => ?_)
        refine G.if_ne (pc' := 43) (tgt := 45) d_FU_without_40 rfl (by decide) ?_ ?_
        · refine G.iconst (v := (-1)) (pc' := 44) d_FU_without_43 rfl kI_m1 ?_
          exact G.iret d_FU_without_44 rfl ⟨Nat.le_refl _, Nat.le_refl _⟩
        · refine G.aload_n (pc' := 46) d_FU_without_45 rfl rfl ?_
          refine G.get (pc' := 49) d_FU_without_46 rfl fg_FU_42 (HX_0 _ _) rfl ?_
          refine G.get (pc' := 52) d_FU_without_49 rfl fg_FU_173 (HX_21 _ _) rfl ?_
          refine G.iload_n (pc' := 53) d_FU_without_52 rfl rfl ?_
          refine G.iald (pc' := 54) d_FU_without_53 rfl (HX_22 _ _) ?_
          refine G.istore_n (ρ' := [some (vr 0), some (vi l1), some (vi l2), some (vi (s3 22 (ix l1)))]) (pc' := 55) d_FU_without_54 rfl (by decide) rfl ?_
          refine G.aload_n (pc' := 56) d_FU_without_55 rfl rfl ?_
          refine G.get (pc' := 59) d_FU_without_56 rfl fg_FU_42 (HX_0 _ _) rfl ?_
          refine G.get (pc' := 62) d_FU_without_59 rfl fg_FU_173 (HX_21 _ _) rfl ?_
          refine G.iload_n (pc' := 63) d_FU_without_62 rfl rfl ?_
          refine G.iload_n (pc' := 64) d_FU_without_63 rfl rfl ?_
          refine G.iconst (v := 1) (pc' := 65) d_FU_without_64 rfl kI_1 ?_
          refine G.iload_n (pc' := 66) d_FU_without_65 rfl rfl ?_
          refine G.ishl (pc' := 67) d_FU_without_66 rfl ?_
          refine G.iconst (v := (-1)) (pc' := 68) d_FU_without_67 rfl kI_m1 ?_
          refine G.ixor (pc' := 69) d_FU_without_68 rfl ?_
          refine G.iand (pc' := 70) d_FU_without_69 rfl ?_
          refine G.iast (s' := wr s3 22 (ix l1) ((s3 22 (ix l1)) &&& ((1 <<< (l2 &&& 31)) ^^^ (-1)))) (pc' := 71) d_FU_without_70 rfl (HX_22 _ _) (HXa_22 _ _ _ _) ?_
          refine G.aload_n (pc' := 72) d_FU_without_71 rfl rfl ?_
          refine G.get (pc' := 75) d_FU_without_72 rfl fg_FU_55 (HX_0 _ _) rfl ?_
          refine G.callVv (As := []) (n := 0) (i := 26) (ci := 6) (st := []) (t_Clo_close_26 (wr s3 22 (ix l1) ((s3 22 (ix l1)) &&& ((1 <<< (l2 &&& 31)) ^^^ (-1)))) _) (pc' := 78) d_FU_without_75 rfl lm_FU_146 mk_Clo_close mv_Clo_close ⟨rfl, rfl⟩ ⟨by decide, by decide⟩ (HX_26 _ _) rfl rfl rfl rfl ⟨Nat.le_refl _, Nat.le_refl _⟩ rfl (fun v4 s4 => ?_)
          refine G.aload_n (pc' := 79) d_FU_without_78 rfl rfl ?_
          refine G.get (pc' := 82) d_FU_without_79 rfl fg_FU_42 (HX_0 _ _) rfl ?_
          refine G.get (pc' := 85) d_FU_without_82 rfl fg_FU_173 (HX_21 _ _) rfl ?_
          refine G.iload_n (pc' := 86) d_FU_without_85 rfl rfl ?_
          refine G.iload_n (pc' := 87) d_FU_without_86 rfl rfl ?_
          refine G.iast (s' := wr s4 22 (ix l1) (s3 22 (ix l1))) (pc' := 88) d_FU_without_87 rfl (HX_22 _ _) (HXa_22 _ _ _ _) ?_
          refine G.aload_n (pc' := 89) d_FU_without_88 rfl rfl ?_
          refine G.callVv (As := []) (n := 0) (i := 0) (ci := 0) (st := []) (t_FU_noteLeavers (wr s4 22 (ix l1) (s3 22 (ix l1))) _) (pc' := 92) d_FU_without_89 rfl lm_FU_174 mk_FU_noteLeavers mv_FU_noteLeavers ⟨rfl, rfl⟩ ⟨by decide, by decide⟩ (HX_0 _ _) rfl rfl rfl rfl ⟨Nat.le_refl _, Nat.le_refl _⟩ rfl (fun v5 s5 => ?_)
          refine G.aload_n (pc' := 93) d_FU_without_92 rfl rfl ?_
          refine G.get (pc' := 96) d_FU_without_93 rfl fg_FU_71 (HX_0 _ _) rfl ?_
          exact G.iret d_FU_without_96 rfl ⟨Nat.le_refl _, Nat.le_refl _⟩
theorem t_FU_left (l1 : Int32) (s : Sg) (R : List AC) : Ct q_FU_left [vr 0, vi l1] s R (f_FU_left l1 s) := by
  refine Ct.of (by decide) rfl (ρ := [some (vr 0), some (vi l1)]) rfl ?_
  unfold f_FU_left
  refine G.iload_n (pc' := 1) d_FU_left_0 rfl rfl ?_
  refine G.aload_n (pc' := 2) d_FU_left_1 rfl rfl ?_
  refine G.get (pc' := 5) d_FU_left_2 rfl fg_FU_71 (HX_0 _ _) rfl ?_
  refine G.callSi (As := [vi l1, vi (s 0 9)]) (n := 2) (st := []) (t_FU_within l1 (s 0 9) s _) (pc' := 8) d_FU_left_5 rfl lm_FU_90 mk_FU_within sx_FU_within ⟨rfl, rfl⟩ ⟨by decide, by decide⟩ rfl rfl rfl ⟨Nat.le_refl _, Nat.le_refl _⟩ rfl (fun v1 s1 => ?_)
  refine G.if_eq (pc' := 11) (tgt := 20) d_FU_left_8 rfl (by decide) ?_ ?_
  · refine G.iconst (v := (-1)) (pc' := 21) d_FU_left_20 rfl kI_m1 ?_
    exact G.iret d_FU_left_21 rfl ⟨Nat.le_refl _, Nat.le_refl _⟩
  · refine G.aload_n (pc' := 12) d_FU_left_11 rfl rfl ?_
    refine G.get (pc' := 15) d_FU_left_12 rfl fg_FU_67 (HX_0 _ _) rfl ?_
    refine G.iload_n (pc' := 16) d_FU_left_15 rfl rfl ?_
    refine G.iald (pc' := 17) d_FU_left_16 rfl (HX_30 _ _) ?_
    refine G.goto (tgt := 21) d_FU_left_17 (by decide) ?_
    exact G.iret d_FU_left_21 rfl ⟨Nat.le_refl _, Nat.le_refl _⟩
